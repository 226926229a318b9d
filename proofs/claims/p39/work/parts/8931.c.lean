theorem nm_iff {v w m : Int} (h : NMk v w) (h0 : 0 ≤ m) (h8 : m ≤ 8) : shrI v m % 2 = 0 ↔ ¬ okN w m := by
  have hm : m = 0 ∨ m = 1 ∨ m = 2 ∨ m = 3 ∨ m = 4 ∨ m = 5 ∨ m = 6 ∨ m = 7 ∨ m = 8 := by omega
  unfold NMk at h
  unfold okN
  rcases h with ⟨e, a, b⟩ | ⟨e, a⟩ | ⟨e, a⟩
  · subst e
    have e2 : shrI 63 m % 2 = if m ≤ 5 then 1 else 0 := by rcases hm with e | e | e | e | e | e | e | e | e <;> subst e <;> decide
    rw [e2]
    split <;> omega
  · subst e
    have e2 : shrI 448 m % 2 = if 6 ≤ m then 1 else 0 := by rcases hm with e | e | e | e | e | e | e | e | e <;> subst e <;> decide
    rw [e2]
    split <;> omega
  · subst e
    have e2 : shrI 7 m % 2 = if m ≤ 2 then 1 else 0 := by rcases hm with e | e | e | e | e | e | e | e | e <;> subst e <;> decide
    rw [e2]
    split <;> omega

theorem RS.uq {g : Nat → Int} {n : Int} {N : Mem} {q q2 : Int} (h : RS g n N q) (h2 : RS g n N q2) : q2 = q := (RS.pl h2).symm.trans (RS.pl h)
def LdO (l : Launch) (nf : Nat) : Prop := ∀ {M : Mem} (hB : Box M)  (d : Int) (p0 : 0 ≤ d) (p1 : d ≤ 8) (g : Nat → Int) (n p : Int) (hR : RS g n M p) (w : Int) (sk : List Int) (hl : (sk.length : Int) = d) (hw : NMk (mI M 22 14) w) (hc : mI M 22 12 ≤ mI M 22 9) (hnf : (8 - d).toNat < nf), Call l (mdX4_readOne (11 + 3 * nf)) [aR 22, aI d] M (fun q N => ∃ r : Int, q = some (aI r) ∧ BF fQ M N ∧ mI N 24 = mI M 24 ∧ mI N 25 = mI M 25 ∧ mI N 26 = mI M 26 ∧ mI N 27 = mI M 27 ∧ mI N 28 = mI M 28 ∧ 0 ≤ r ∧ r ≤ 1 ∧ 0 ≤ mI N 22 9 ∧ mI N 22 13 = mI M 22 13 ∧ mI N 22 14 = mI M 22 14 ∧ (r = 1 → CO3 g n w M N p (3 * (8 - d) + 1)) ∧ LR g n w sk p (ETr g n) N r)
def LdP (l : Launch) (nf : Nat) : Prop := ∀ {M : Mem} (hB : Box M)  (d : Int) (p0 : 0 ≤ d) (p1 : d ≤ 8) (g : Nat → Int) (n p : Int) (hR : RS g n M p) (w : Int) (sk : List Int) (hl : (sk.length : Int) = d) (hd : dm sk = sk) (hw : NMk (mI M 22 14) w) (hc : mI M 22 12 ≤ mI M 22 9) (hnf : (8 - d).toNat < nf), Call l (mdX4_readProduct (12 + 3 * nf)) [aR 22, aI d] M (fun q N => ∃ r : Int, q = some (aI r) ∧ BF fQ M N ∧ mI N 24 = mI M 24 ∧ mI N 25 = mI M 25 ∧ mI N 26 = mI M 26 ∧ mI N 27 = mI M 27 ∧ mI N 28 = mI M 28 ∧ 0 ≤ r ∧ r ≤ 1 ∧ 0 ≤ mI N 22 9 ∧ mI N 22 13 = mI M 22 13 ∧ mI N 22 14 = mI M 22 14 ∧ (r = 1 → CO2 g n w M N p (3 * (8 - d) + 2) 2 (EMul g n)) ∧ LR g n w sk p (EMul g n) N r)
def LdS (l : Launch) (nf : Nat) : Prop := ∀ {M : Mem} (hB : Box M)  (d : Int) (p0 : 0 ≤ d) (p1 : d ≤ 8) (g : Nat → Int) (n p : Int) (hR : RS g n M p) (w : Int) (sk : List Int) (hl : (sk.length : Int) = d) (hd : dm sk = sk) (hw : NMk (mI M 22 14) w) (hc : mI M 22 12 ≤ mI M 22 9) (hnf : (8 - d).toNat < nf), Call l (mdX4_readSum (13 + 3 * nf)) [aR 22, aI d] M (fun q N => ∃ r : Int, q = some (aI r) ∧ BF fQ M N ∧ mI N 24 = mI M 24 ∧ mI N 25 = mI M 25 ∧ mI N 26 = mI M 26 ∧ mI N 27 = mI M 27 ∧ mI N 28 = mI M 28 ∧ 0 ≤ r ∧ r ≤ 1 ∧ 0 ≤ mI N 22 9 ∧ mI N 22 13 = mI M 22 13 ∧ mI N 22 14 = mI M 22 14 ∧ (r = 1 → CO2 g n w M N p (3 * (8 - d) + 3) 1 (EOp g n)) ∧ LR g n w sk p (EOp g n) N r)
set_option maxRecDepth 4000 in
theorem ld_one {l : Launch} {nf : Nat} (hs : LdS l nf) (ho : LdO l nf) : LdO l (nf + 1) := by
  intro M hB d p0 p1 g n p hR w sk hl hw hc hnf
  have hB0 : BF fQ M M := BF.start hB
  have hc0 := (b22_12 hB).1
  have em0 : EM M M [] := EM.nil rfl rfl
  refine Call.of [some (aR 22), some (aI d), none, none] rfl (Nat.le_of_ble_eq_true rfl) rfl ?_
  have ct1 := RS.ct hR
  unfold CT at ct1
  have rg2 := RS.rg hR
  refine vc_aload_n dX4_readOne_0 rfl ?_
  refine vc_getI dX4_readOne_1 flX4_69 (s_22 hB0.1.1) rfl ?_
  refine vc_iconst dX4_readOne_4 rfl ?_
  refine vc_icmp_ne dX4_readOne_5 (fun h3 => ?_) (fun h3 => ?_)
  · refine vc_aload_n dX4_readOne_50 rfl ?_
    refine vc_getI dX4_readOne_51 flX4_69 (s_22 hB0.1.1) rfl ?_
    refine vc_iconst dX4_readOne_54 rfl ?_
    refine vc_icmp_ne dX4_readOne_55 (fun h4 => ?_) (fun h4 => ?_)
    · refine vc_aload_n dX4_readOne_119 rfl ?_
      refine vc_getI dX4_readOne_120 flX4_69 (s_22 hB0.1.1) rfl ?_
      refine vc_iconst dX4_readOne_123 rfl ?_
      refine vc_icmp_ne dX4_readOne_124 (fun h5 => ?_) (fun h5 => ?_)
      · refine vc_iconst dX4_readOne_149 rfl ?_
        refine vc_istore_n dX4_readOne_150 (Nat.le_of_ble_eq_true rfl) rfl (show _ = [some (aR 22), some (aI d), some (aI 0), none] from rfl) ?_
        refine vc_iload_n dX4_readOne_151 rfl ?_
        refine vc_if_ne dX4_readOne_152 (fun h6 => by exfalso; omega) (fun h6 => ?_)
        refine vc_aload_n dX4_readOne_155 rfl ?_
        refine vc_bipush dX4_readOne_156 rfl ?_
        refine vc_cVI dX4_readOne_158 (sfX4_isSignF (M := M) hB0.1  40 ) rfl okX4_isSign viX4_isSign lkX4_163 (s_22 hB0.1.1) cl_4 rfl (by show 0 < 11 + 3 * (nf + 1); omega) ⟨rfl, rfl⟩ (Nat.le_of_ble_eq_true rfl) (Nat.le_of_ble_eq_true rfl) (Nat.le_of_ble_eq_true rfl) ?_
        rintro x7 _ ⟨rfl, h8, h9, h10⟩
        refine vc_if_ne dX4_readOne_161 (fun h11 => ?_) (fun h11 => ?_)
        · refine vc_iload_n dX4_readOne_179 rfl ?_
          refine vc_bipush dX4_readOne_180 rfl ?_
          refine vc_icmp_lt dX4_readOne_182 (fun h12 => ?_) (fun h12 => ?_)
          · refine vc_aload_n dX4_readOne_191 rfl ?_
            refine vc_getI dX4_readOne_192 flX4_119 (s_22 hB0.1.1) rfl ?_
            refine vc_nameI (fun x13 ex13 => ?_)
            refine vc_istore_n dX4_readOne_195 (Nat.le_of_ble_eq_true rfl) rfl (show _ = [some (aR 22), some (aI d), some (aI 0), some (aI x13)] from rfl) ?_
            refine vc_aload_n dX4_readOne_196 rfl ?_
            refine vc_cVI dX4_readOne_197 (sfX4_takeTokenF (M := M) hB0.1  g n p hR (by omega)) rfl okX4_takeToken viX4_takeToken lkX4_65 (s_22 hB0.1.1) cl_4 rfl (by show 0 < 11 + 3 * (nf + 1); omega) ⟨rfl, rfl⟩ (Nat.le_of_ble_eq_true rfl) (Nat.le_of_ble_eq_true rfl) (Nat.le_of_ble_eq_true rfl) ?_
            rintro x14 M15 ⟨hB16, kp17, kp18, kp19, kp20, kp21, kp22, h23, h24, h25, h26, h27, h28⟩
            have hB29 : BF fQ M M15 := BF.go hB0 hB16
            have kp30 : mI M15 24 = mI M 24 := kp_go rfl kp18
            have kp31 : mI M15 25 = mI M 25 := kp_go rfl kp19
            have kp32 : mI M15 26 = mI M 26 := kp_go rfl kp20
            have kp33 : mI M15 27 = mI M 27 := kp_go rfl kp21
            have kp34 : mI M15 28 = mI M 28 := kp_go rfl kp22
            have kp35 : mI M15 23 = mI M 23 := kp_go rfl kp17
            have em36 : EM M M15 ([]) := EM.suf em0 (by omega) kp17
            refine vc_pop dX4_readOne_200 rfl ?_
            refine vc_iload_n dX4_readOne_201 rfl ?_
            refine vc_if_eq dX4_readOne_202 (fun h37 => ?_) (fun h37 => by exfalso; omega)
            refine vc_iload_n dX4_readOne_280 rfl ?_
            refine vc_bipush dX4_readOne_281 rfl ?_
            refine vc_icmp_ne dX4_readOne_283 (fun h38 => ?_) (fun h38 => ?_)
            · have kt39 : ∀ o, Rn (tk g n) (nx g n) w (2 :: sk) false (nx g n p) o → Rn (tk g n) (nx g n) w sk false p o := fun o r => r_neg (by omega) (by omega) r
              refine vc_aload_n dX4_readOne_311 rfl ?_
              refine vc_iload_n dX4_readOne_312 rfl ?_
              refine vc_iconst dX4_readOne_313 rfl ?_
              refine vc_iaddE dX4_readOne_314 (by omega) (by omega) ?_
              refine vc_cVI dX4_readOne_315 (ho (M := M15) hB29.1  (d + 1) (by omega) (by omega) g n (nx g n p) h28 w (2 :: sk) (by first | (rw [List.length_cons]; omega) | omega) (by rw [show mI M15 22 14 = mI M 22 14 by omega]; exact hw) (by omega) (by omega)) rfl (okX4_readOne (11 + 3 * nf)) (viX4_readOne (11 + 3 * nf)) (lkX4_179 (11 + 3 * nf)) (s_22 hB29.1.1) cl_4 rfl (by show (11 + 3 * nf) < 11 + 3 * (nf + 1); omega) ⟨rfl, rfl⟩ (Nat.le_of_ble_eq_true rfl) (Nat.le_of_ble_eq_true rfl) (Nat.le_of_ble_eq_true rfl) ?_
              rintro x40 M41 ⟨hB42, kp43, kp44, kp45, kp46, kp47, h48, h49, h50, h51, h52, h53, h54⟩
              have hB55 : BF fQ M M41 := BF.go hB29 hB42
              have kp56 : mI M41 24 = mI M 24 := kp_go kp30 kp43
              have kp57 : mI M41 25 = mI M 25 := kp_go kp31 kp44
              have kp58 : mI M41 26 = mI M 26 := kp_go kp32 kp45
              have kp59 : mI M41 27 = mI M 27 := kp_go kp33 kp46
              have kp60 : mI M41 28 = mI M 28 := kp_go kp34 kp47
              refine vc_if_eq dX4_readOne_318 (fun h61 => ?_) (fun h61 => ?_)
              · refine vc_iconst dX4_readOne_335 rfl ?_
                refine vc_zret dX4_readOne_336 rfl (by first | decide | omega) (Nat.le_of_ble_eq_true rfl) (Nat.le_of_ble_eq_true rfl) ?_
                exact ⟨_, rfl, hB55, kp56, kp57, kp58, kp59, kp60, by omega, by omega, by omega, by omega, by omega, fun h => absurd h (by omega), Or.inr ⟨by omega, (LR.bad h54 (by omega)).1, kt39 _ (LR.bad h54 (by omega)).2⟩⟩
              · obtain ⟨q62, hl63, hR64, hE65, hk66⟩ := LR.ok h54 (by omega)
                have kt67 : ∀ o, Rn (tk g n) (nx g n) w (dm sk) true q62 o → Rn (tk g n) (nx g n) w sk false p o := fun o r => kt39 o (hk66 o r)
                obtain ⟨q68, c69, ⟨w70, w71, w72, w73, w74⟩, f75⟩ := h53 (by omega)
                have e77 := RS.uq w70 hR64
                subst e77
                have rg78 := RS.rg hR64
                have em79 : EM M M41 (c69) := EM.app (by omega) em36 w71
                refine vc_aload_n dX4_readOne_321 rfl ?_
                refine vc_sipush dX4_readOne_322 rfl ?_
                refine vc_cVI dX4_readOne_325 (sfX4_emitF (M := M41) hB55.1  g n q62 hR64 20006 (by omega)) rfl okX4_emit viX4_emit lkX4_176 (s_22 hB55.1.1) cl_4 rfl (by show 0 < 11 + 3 * (nf + 1); omega) ⟨rfl, rfl⟩ (Nat.le_of_ble_eq_true rfl) (Nat.le_of_ble_eq_true rfl) (Nat.le_of_ble_eq_true rfl) ?_
                rintro x80 M81 ⟨hB82, kp83, kp84, kp85, kp86, kp87, h88, h89, h90, h91, h92, h93, h94⟩
                have hB95 : BF fQ M M81 := BF.go hB55 hB82
                have kp96 : mI M81 24 = mI M 24 := kp_go kp56 kp83
                have kp97 : mI M81 25 = mI M 25 := kp_go kp57 kp84
                have kp98 : mI M81 26 = mI M 26 := kp_go kp58 kp85
                have kp99 : mI M81 27 = mI M 27 := kp_go kp59 kp86
                have kp100 : mI M81 28 = mI M 28 := kp_go kp60 kp87
                have em101 : EM M M81 ((c69) ++ [((2 : Int), (0 : Int))]) := EM.app (by omega) em79 (h93 ((2 : Int), (0 : Int)) (by rfl))
                refine vc_if_eq dX4_readOne_328 (fun h102 => by exfalso; omega) (fun h102 => ?_)
                refine vc_iconst dX4_readOne_331 rfl ?_
                refine vc_goto dX4_readOne_332 ?_
                refine vc_zret dX4_readOne_336 rfl (by first | decide | omega) (Nat.le_of_ble_eq_true rfl) (Nat.le_of_ble_eq_true rfl) ?_
                exact ⟨_, rfl, hB95, kp96, kp97, kp98, kp99, kp100, by omega, by omega, by omega, by omega, by omega, fun _ => ⟨q62, (c69) ++ [((2 : Int), (0 : Int))], ⟨h94, em101, by omega, H1.neg (H1.up w73 (by omega)) 0, rgO.app w74 (rgO.one (by decide))⟩, neg_fw (by omega) rfl f75⟩, Or.inl ⟨by omega, q62, by omega, h94, trivial, kt67⟩⟩
            · have kt103 : ∀ o, Rn (tk g n) (nx g n) w (40 :: sk) false (nx g n p) o → Rn (tk g n) (nx g n) w sk false p o := fun o r => r_par (by omega) (by omega) r
              refine vc_aload_n dX4_readOne_286 rfl ?_
              refine vc_iload_n dX4_readOne_287 rfl ?_
              refine vc_iconst dX4_readOne_288 rfl ?_
              refine vc_iaddE dX4_readOne_289 (by omega) (by omega) ?_
              refine vc_cVI dX4_readOne_290 (hs (M := M15) hB29.1  (d + 1) (by omega) (by omega) g n (nx g n p) h28 w (40 :: sk) (by first | (rw [List.length_cons]; omega) | omega) rfl (by rw [show mI M15 22 14 = mI M 22 14 by omega]; exact hw) (by omega) (by omega)) rfl (okX4_readSum (13 + 3 * nf)) (viX4_readSum (13 + 3 * nf)) (lkX4_132 (13 + 3 * nf)) (s_22 hB29.1.1) cl_4 rfl (by show (13 + 3 * nf) < 11 + 3 * (nf + 1); omega) ⟨rfl, rfl⟩ (Nat.le_of_ble_eq_true rfl) (Nat.le_of_ble_eq_true rfl) (Nat.le_of_ble_eq_true rfl) ?_
              rintro x104 M105 ⟨hB106, kp107, kp108, kp109, kp110, kp111, h112, h113, h114, h115, h116, h117, h118⟩
              have hB119 : BF fQ M M105 := BF.go hB29 hB106
              have kp120 : mI M105 24 = mI M 24 := kp_go kp30 kp107
              have kp121 : mI M105 25 = mI M 25 := kp_go kp31 kp108
              have kp122 : mI M105 26 = mI M 26 := kp_go kp32 kp109
              have kp123 : mI M105 27 = mI M 27 := kp_go kp33 kp110
              have kp124 : mI M105 28 = mI M 28 := kp_go kp34 kp111
              refine vc_if_eq dX4_readOne_293 (fun h125 => ?_) (fun h125 => ?_)
              · refine vc_iconst dX4_readOne_309 rfl ?_
                refine vc_zret dX4_readOne_310 rfl (by first | decide | omega) (Nat.le_of_ble_eq_true rfl) (Nat.le_of_ble_eq_true rfl) ?_
                exact ⟨_, rfl, hB119, kp120, kp121, kp122, kp123, kp124, by omega, by omega, by omega, by omega, by omega, fun h => absurd h (by omega), Or.inr ⟨by omega, (LR.bad h118 (by omega)).1, kt103 _ (LR.bad h118 (by omega)).2⟩⟩
              · obtain ⟨q126, hl127, hR128, hE129, hk130⟩ := LR.ok h118 (by omega)
                unfold EOp at hE129
                have kt131 : ∀ o, Rn (tk g n) (nx g n) w (40 :: sk) true q126 o → Rn (tk g n) (nx g n) w sk false p o := fun o r => kt103 o (hk130 o r)
                obtain ⟨q132, c133, ⟨w134, w135, w136, w137, w138⟩, E140, f139⟩ := h117 (by omega)
                have e141 := RS.uq w134 hR128
                subst e141
                have rg142 := RS.rg hR128
                unfold EOp at E140
                have em143 : EM M M105 (c133) := EM.app (by omega) em36 w135
                refine vc_aload_n dX4_readOne_296 rfl ?_
                refine vc_bipush dX4_readOne_297 rfl ?_
                refine vc_cVI dX4_readOne_299 (sfX4_readSignF (M := M105) hB119.1  g n q126 hR128 41 (by omega) (by omega)) rfl okX4_readSign viX4_readSign lkX4_141 (s_22 hB119.1.1) cl_4 rfl (by show 1 < 11 + 3 * (nf + 1); omega) ⟨rfl, rfl⟩ (Nat.le_of_ble_eq_true rfl) (Nat.le_of_ble_eq_true rfl) (Nat.le_of_ble_eq_true rfl) ?_
                rintro x144 M145 ⟨hB146, kp147, kp148, kp149, kp150, kp151, kp152, h153, h154, h155, h156, h157, h158⟩
                have hB159 : BF fQ M M145 := BF.go hB119 hB146
                have kp160 : mI M145 24 = mI M 24 := kp_go kp120 kp148
                have kp161 : mI M145 25 = mI M 25 := kp_go kp121 kp149
                have kp162 : mI M145 26 = mI M 26 := kp_go kp122 kp150
                have kp163 : mI M145 27 = mI M 27 := kp_go kp123 kp151
                have kp164 : mI M145 28 = mI M 28 := kp_go kp124 kp152
                refine vc_if_eq dX4_readOne_302 (fun h165 => ?_) (fun h165 => ?_)
                · refine vc_iconst dX4_readOne_309 rfl ?_
                  refine vc_zret dX4_readOne_310 rfl (by first | decide | omega) (Nat.le_of_ble_eq_true rfl) (Nat.le_of_ble_eq_true rfl) ?_
                  have hb166 := TR.bad h158 (by omega)
                  exact ⟨_, rfl, hB159, kp160, kp161, kp162, kp163, kp164, by omega, by omega, by omega, by omega, by omega, fun h => absurd h (by omega), Or.inr ⟨by omega, by omega, by rw [hb166.2.1, hb166.2.2]; exact kt131 _ (t_b40 hE129 (by omega))⟩⟩
                · have e167 := TR.ok h158 (by omega)
                  have he168 := e167.1
                  have rg169 := RS.rg hR128
                  have kt170 : ∀ o, Rn (tk g n) (nx g n) w (dm sk) true (nx g n q126) o → Rn (tk g n) (nx g n) w sk false p o := fun o r => kt131 o (t_shut (by omega) r)
                  have em171 : EM M M145 c133 := EM.suf em143 (by omega) kp147
                  refine vc_iconst dX4_readOne_305 rfl ?_
                  refine vc_goto dX4_readOne_306 ?_
                  refine vc_zret dX4_readOne_310 rfl (by first | decide | omega) (Nat.le_of_ble_eq_true rfl) (Nat.le_of_ble_eq_true rfl) ?_
                  exact ⟨_, rfl, hB159, kp160, kp161, kp162, kp163, kp164, by omega, by omega, by omega, by omega, by omega, fun _ => ⟨nx g n q126, c133, ⟨e167.2, em171, by omega, H1.up w137 (by omega), w138⟩, par_fw (by omega) rfl f139 (by omega)⟩, Or.inl ⟨by omega, nx g n q126, by omega, e167.2, trivial, kt170⟩⟩
          · refine vc_aload_n dX4_readOne_185 rfl ?_
            refine vc_iconst dX4_readOne_186 rfl ?_
            refine vc_cVI dX4_readOne_187 (sfX4_failedF (M := M) hB0.1  g n p hR 3 ) rfl okX4_failed viX4_failed lkX4_122 (s_22 hB0.1.1) cl_4 rfl (by show 0 < 11 + 3 * (nf + 1); omega) ⟨rfl, rfl⟩ (Nat.le_of_ble_eq_true rfl) (Nat.le_of_ble_eq_true rfl) (Nat.le_of_ble_eq_true rfl) ?_
            rintro x172 M173 ⟨hB174, kp175, kp176, kp177, kp178, kp179, kp180, h181, h182, h183, h184, h185, h186, h187⟩
            have hB188 : BF fQ M M173 := BF.go hB0 hB174
            have kp189 : mI M173 24 = mI M 24 := kp_go rfl kp176
            have kp190 : mI M173 25 = mI M 25 := kp_go rfl kp177
            have kp191 : mI M173 26 = mI M 26 := kp_go rfl kp178
            have kp192 : mI M173 27 = mI M 27 := kp_go rfl kp179
            have kp193 : mI M173 28 = mI M 28 := kp_go rfl kp180
            have kp194 : mI M173 23 = mI M 23 := kp_go rfl kp175
            refine vc_zret dX4_readOne_190 rfl (by first | decide | omega) (Nat.le_of_ble_eq_true rfl) (Nat.le_of_ble_eq_true rfl) ?_
            exact ⟨_, rfl, hB188, kp189, kp190, kp191, kp192, kp193, by omega, by omega, by omega, by omega, by omega, fun h => absurd h (by omega), Or.inr ⟨by omega, by omega, by rw [h186, h187]; first | exact r_two3 (by omega) (by omega) | exact r_par3 (by omega) (by omega) | exact r_neg3 (by omega) (by omega)⟩⟩
        · refine vc_aload_n dX4_readOne_164 rfl ?_
          refine vc_bipush dX4_readOne_165 rfl ?_
          refine vc_cVI dX4_readOne_167 (sfX4_isSignF (M := M) hB0.1  45 ) rfl okX4_isSign viX4_isSign lkX4_163 (s_22 hB0.1.1) cl_4 rfl (by show 0 < 11 + 3 * (nf + 1); omega) ⟨rfl, rfl⟩ (Nat.le_of_ble_eq_true rfl) (Nat.le_of_ble_eq_true rfl) (Nat.le_of_ble_eq_true rfl) ?_
          rintro x195 _ ⟨rfl, h196, h197, h198⟩
          refine vc_if_ne dX4_readOne_170 (fun h199 => ?_) (fun h199 => ?_)
          · refine vc_iload_n dX4_readOne_179 rfl ?_
            refine vc_bipush dX4_readOne_180 rfl ?_
            refine vc_icmp_lt dX4_readOne_182 (fun h200 => ?_) (fun h200 => ?_)
            · refine vc_aload_n dX4_readOne_191 rfl ?_
              refine vc_getI dX4_readOne_192 flX4_119 (s_22 hB0.1.1) rfl ?_
              refine vc_nameI (fun x201 ex201 => ?_)
              refine vc_istore_n dX4_readOne_195 (Nat.le_of_ble_eq_true rfl) rfl (show _ = [some (aR 22), some (aI d), some (aI 0), some (aI x201)] from rfl) ?_
              refine vc_aload_n dX4_readOne_196 rfl ?_
              refine vc_cVI dX4_readOne_197 (sfX4_takeTokenF (M := M) hB0.1  g n p hR (by omega)) rfl okX4_takeToken viX4_takeToken lkX4_65 (s_22 hB0.1.1) cl_4 rfl (by show 0 < 11 + 3 * (nf + 1); omega) ⟨rfl, rfl⟩ (Nat.le_of_ble_eq_true rfl) (Nat.le_of_ble_eq_true rfl) (Nat.le_of_ble_eq_true rfl) ?_
              rintro x202 M203 ⟨hB204, kp205, kp206, kp207, kp208, kp209, kp210, h211, h212, h213, h214, h215, h216⟩
              have hB217 : BF fQ M M203 := BF.go hB0 hB204
              have kp218 : mI M203 24 = mI M 24 := kp_go rfl kp206
              have kp219 : mI M203 25 = mI M 25 := kp_go rfl kp207
              have kp220 : mI M203 26 = mI M 26 := kp_go rfl kp208
              have kp221 : mI M203 27 = mI M 27 := kp_go rfl kp209
              have kp222 : mI M203 28 = mI M 28 := kp_go rfl kp210
              have kp223 : mI M203 23 = mI M 23 := kp_go rfl kp205
              have em224 : EM M M203 ([]) := EM.suf em0 (by omega) kp205
              refine vc_pop dX4_readOne_200 rfl ?_
              refine vc_iload_n dX4_readOne_201 rfl ?_
              refine vc_if_eq dX4_readOne_202 (fun h225 => ?_) (fun h225 => by exfalso; omega)
              refine vc_iload_n dX4_readOne_280 rfl ?_
              refine vc_bipush dX4_readOne_281 rfl ?_
              refine vc_icmp_ne dX4_readOne_283 (fun h226 => ?_) (fun h226 => ?_)
              · have kt227 : ∀ o, Rn (tk g n) (nx g n) w (2 :: sk) false (nx g n p) o → Rn (tk g n) (nx g n) w sk false p o := fun o r => r_neg (by omega) (by omega) r
                refine vc_aload_n dX4_readOne_311 rfl ?_
                refine vc_iload_n dX4_readOne_312 rfl ?_
                refine vc_iconst dX4_readOne_313 rfl ?_
                refine vc_iaddE dX4_readOne_314 (by omega) (by omega) ?_
                refine vc_cVI dX4_readOne_315 (ho (M := M203) hB217.1  (d + 1) (by omega) (by omega) g n (nx g n p) h216 w (2 :: sk) (by first | (rw [List.length_cons]; omega) | omega) (by rw [show mI M203 22 14 = mI M 22 14 by omega]; exact hw) (by omega) (by omega)) rfl (okX4_readOne (11 + 3 * nf)) (viX4_readOne (11 + 3 * nf)) (lkX4_179 (11 + 3 * nf)) (s_22 hB217.1.1) cl_4 rfl (by show (11 + 3 * nf) < 11 + 3 * (nf + 1); omega) ⟨rfl, rfl⟩ (Nat.le_of_ble_eq_true rfl) (Nat.le_of_ble_eq_true rfl) (Nat.le_of_ble_eq_true rfl) ?_
                rintro x228 M229 ⟨hB230, kp231, kp232, kp233, kp234, kp235, h236, h237, h238, h239, h240, h241, h242⟩
                have hB243 : BF fQ M M229 := BF.go hB217 hB230
                have kp244 : mI M229 24 = mI M 24 := kp_go kp218 kp231
                have kp245 : mI M229 25 = mI M 25 := kp_go kp219 kp232
                have kp246 : mI M229 26 = mI M 26 := kp_go kp220 kp233
                have kp247 : mI M229 27 = mI M 27 := kp_go kp221 kp234
                have kp248 : mI M229 28 = mI M 28 := kp_go kp222 kp235
                refine vc_if_eq dX4_readOne_318 (fun h249 => ?_) (fun h249 => ?_)
                · refine vc_iconst dX4_readOne_335 rfl ?_
                  refine vc_zret dX4_readOne_336 rfl (by first | decide | omega) (Nat.le_of_ble_eq_true rfl) (Nat.le_of_ble_eq_true rfl) ?_
                  exact ⟨_, rfl, hB243, kp244, kp245, kp246, kp247, kp248, by omega, by omega, by omega, by omega, by omega, fun h => absurd h (by omega), Or.inr ⟨by omega, (LR.bad h242 (by omega)).1, kt227 _ (LR.bad h242 (by omega)).2⟩⟩
                · obtain ⟨q250, hl251, hR252, hE253, hk254⟩ := LR.ok h242 (by omega)
                  have kt255 : ∀ o, Rn (tk g n) (nx g n) w (dm sk) true q250 o → Rn (tk g n) (nx g n) w sk false p o := fun o r => kt227 o (hk254 o r)
                  obtain ⟨q256, c257, ⟨w258, w259, w260, w261, w262⟩, f263⟩ := h241 (by omega)
                  have e265 := RS.uq w258 hR252
                  subst e265
                  have rg266 := RS.rg hR252
                  have em267 : EM M M229 (c257) := EM.app (by omega) em224 w259
                  refine vc_aload_n dX4_readOne_321 rfl ?_
                  refine vc_sipush dX4_readOne_322 rfl ?_
                  refine vc_cVI dX4_readOne_325 (sfX4_emitF (M := M229) hB243.1  g n q250 hR252 20006 (by omega)) rfl okX4_emit viX4_emit lkX4_176 (s_22 hB243.1.1) cl_4 rfl (by show 0 < 11 + 3 * (nf + 1); omega) ⟨rfl, rfl⟩ (Nat.le_of_ble_eq_true rfl) (Nat.le_of_ble_eq_true rfl) (Nat.le_of_ble_eq_true rfl) ?_
                  rintro x268 M269 ⟨hB270, kp271, kp272, kp273, kp274, kp275, h276, h277, h278, h279, h280, h281, h282⟩
                  have hB283 : BF fQ M M269 := BF.go hB243 hB270
                  have kp284 : mI M269 24 = mI M 24 := kp_go kp244 kp271
                  have kp285 : mI M269 25 = mI M 25 := kp_go kp245 kp272
                  have kp286 : mI M269 26 = mI M 26 := kp_go kp246 kp273
                  have kp287 : mI M269 27 = mI M 27 := kp_go kp247 kp274
                  have kp288 : mI M269 28 = mI M 28 := kp_go kp248 kp275
                  have em289 : EM M M269 ((c257) ++ [((2 : Int), (0 : Int))]) := EM.app (by omega) em267 (h281 ((2 : Int), (0 : Int)) (by rfl))
                  refine vc_if_eq dX4_readOne_328 (fun h290 => by exfalso; omega) (fun h290 => ?_)
                  refine vc_iconst dX4_readOne_331 rfl ?_
                  refine vc_goto dX4_readOne_332 ?_
                  refine vc_zret dX4_readOne_336 rfl (by first | decide | omega) (Nat.le_of_ble_eq_true rfl) (Nat.le_of_ble_eq_true rfl) ?_
                  exact ⟨_, rfl, hB283, kp284, kp285, kp286, kp287, kp288, by omega, by omega, by omega, by omega, by omega, fun _ => ⟨q250, (c257) ++ [((2 : Int), (0 : Int))], ⟨h282, em289, by omega, H1.neg (H1.up w261 (by omega)) 0, rgO.app w262 (rgO.one (by decide))⟩, neg_fw (by omega) rfl f263⟩, Or.inl ⟨by omega, q250, by omega, h282, trivial, kt255⟩⟩
              · have kt291 : ∀ o, Rn (tk g n) (nx g n) w (40 :: sk) false (nx g n p) o → Rn (tk g n) (nx g n) w sk false p o := fun o r => r_par (by omega) (by omega) r
                refine vc_aload_n dX4_readOne_286 rfl ?_
                refine vc_iload_n dX4_readOne_287 rfl ?_
                refine vc_iconst dX4_readOne_288 rfl ?_
                refine vc_iaddE dX4_readOne_289 (by omega) (by omega) ?_
                refine vc_cVI dX4_readOne_290 (hs (M := M203) hB217.1  (d + 1) (by omega) (by omega) g n (nx g n p) h216 w (40 :: sk) (by first | (rw [List.length_cons]; omega) | omega) rfl (by rw [show mI M203 22 14 = mI M 22 14 by omega]; exact hw) (by omega) (by omega)) rfl (okX4_readSum (13 + 3 * nf)) (viX4_readSum (13 + 3 * nf)) (lkX4_132 (13 + 3 * nf)) (s_22 hB217.1.1) cl_4 rfl (by show (13 + 3 * nf) < 11 + 3 * (nf + 1); omega) ⟨rfl, rfl⟩ (Nat.le_of_ble_eq_true rfl) (Nat.le_of_ble_eq_true rfl) (Nat.le_of_ble_eq_true rfl) ?_
                rintro x292 M293 ⟨hB294, kp295, kp296, kp297, kp298, kp299, h300, h301, h302, h303, h304, h305, h306⟩
                have hB307 : BF fQ M M293 := BF.go hB217 hB294
                have kp308 : mI M293 24 = mI M 24 := kp_go kp218 kp295
                have kp309 : mI M293 25 = mI M 25 := kp_go kp219 kp296
                have kp310 : mI M293 26 = mI M 26 := kp_go kp220 kp297
                have kp311 : mI M293 27 = mI M 27 := kp_go kp221 kp298
                have kp312 : mI M293 28 = mI M 28 := kp_go kp222 kp299
                refine vc_if_eq dX4_readOne_293 (fun h313 => ?_) (fun h313 => ?_)
                · refine vc_iconst dX4_readOne_309 rfl ?_
                  refine vc_zret dX4_readOne_310 rfl (by first | decide | omega) (Nat.le_of_ble_eq_true rfl) (Nat.le_of_ble_eq_true rfl) ?_
                  exact ⟨_, rfl, hB307, kp308, kp309, kp310, kp311, kp312, by omega, by omega, by omega, by omega, by omega, fun h => absurd h (by omega), Or.inr ⟨by omega, (LR.bad h306 (by omega)).1, kt291 _ (LR.bad h306 (by omega)).2⟩⟩
                · obtain ⟨q314, hl315, hR316, hE317, hk318⟩ := LR.ok h306 (by omega)
                  unfold EOp at hE317
                  have kt319 : ∀ o, Rn (tk g n) (nx g n) w (40 :: sk) true q314 o → Rn (tk g n) (nx g n) w sk false p o := fun o r => kt291 o (hk318 o r)
                  obtain ⟨q320, c321, ⟨w322, w323, w324, w325, w326⟩, E328, f327⟩ := h305 (by omega)
                  have e329 := RS.uq w322 hR316
                  subst e329
                  have rg330 := RS.rg hR316
                  unfold EOp at E328
                  have em331 : EM M M293 (c321) := EM.app (by omega) em224 w323
                  refine vc_aload_n dX4_readOne_296 rfl ?_
                  refine vc_bipush dX4_readOne_297 rfl ?_
                  refine vc_cVI dX4_readOne_299 (sfX4_readSignF (M := M293) hB307.1  g n q314 hR316 41 (by omega) (by omega)) rfl okX4_readSign viX4_readSign lkX4_141 (s_22 hB307.1.1) cl_4 rfl (by show 1 < 11 + 3 * (nf + 1); omega) ⟨rfl, rfl⟩ (Nat.le_of_ble_eq_true rfl) (Nat.le_of_ble_eq_true rfl) (Nat.le_of_ble_eq_true rfl) ?_
                  rintro x332 M333 ⟨hB334, kp335, kp336, kp337, kp338, kp339, kp340, h341, h342, h343, h344, h345, h346⟩
                  have hB347 : BF fQ M M333 := BF.go hB307 hB334
                  have kp348 : mI M333 24 = mI M 24 := kp_go kp308 kp336
                  have kp349 : mI M333 25 = mI M 25 := kp_go kp309 kp337
                  have kp350 : mI M333 26 = mI M 26 := kp_go kp310 kp338
                  have kp351 : mI M333 27 = mI M 27 := kp_go kp311 kp339
                  have kp352 : mI M333 28 = mI M 28 := kp_go kp312 kp340
                  refine vc_if_eq dX4_readOne_302 (fun h353 => ?_) (fun h353 => ?_)
                  · refine vc_iconst dX4_readOne_309 rfl ?_
                    refine vc_zret dX4_readOne_310 rfl (by first | decide | omega) (Nat.le_of_ble_eq_true rfl) (Nat.le_of_ble_eq_true rfl) ?_
                    have hb354 := TR.bad h346 (by omega)
                    exact ⟨_, rfl, hB347, kp348, kp349, kp350, kp351, kp352, by omega, by omega, by omega, by omega, by omega, fun h => absurd h (by omega), Or.inr ⟨by omega, by omega, by rw [hb354.2.1, hb354.2.2]; exact kt319 _ (t_b40 hE317 (by omega))⟩⟩
                  · have e355 := TR.ok h346 (by omega)
                    have he356 := e355.1
                    have rg357 := RS.rg hR316
                    have kt358 : ∀ o, Rn (tk g n) (nx g n) w (dm sk) true (nx g n q314) o → Rn (tk g n) (nx g n) w sk false p o := fun o r => kt319 o (t_shut (by omega) r)
                    have em359 : EM M M333 c321 := EM.suf em331 (by omega) kp335
                    refine vc_iconst dX4_readOne_305 rfl ?_
                    refine vc_goto dX4_readOne_306 ?_
                    refine vc_zret dX4_readOne_310 rfl (by first | decide | omega) (Nat.le_of_ble_eq_true rfl) (Nat.le_of_ble_eq_true rfl) ?_
                    exact ⟨_, rfl, hB347, kp348, kp349, kp350, kp351, kp352, by omega, by omega, by omega, by omega, by omega, fun _ => ⟨nx g n q314, c321, ⟨e355.2, em359, by omega, H1.up w325 (by omega), w326⟩, par_fw (by omega) rfl f327 (by omega)⟩, Or.inl ⟨by omega, nx g n q314, by omega, e355.2, trivial, kt358⟩⟩
            · refine vc_aload_n dX4_readOne_185 rfl ?_
              refine vc_iconst dX4_readOne_186 rfl ?_
              refine vc_cVI dX4_readOne_187 (sfX4_failedF (M := M) hB0.1  g n p hR 3 ) rfl okX4_failed viX4_failed lkX4_122 (s_22 hB0.1.1) cl_4 rfl (by show 0 < 11 + 3 * (nf + 1); omega) ⟨rfl, rfl⟩ (Nat.le_of_ble_eq_true rfl) (Nat.le_of_ble_eq_true rfl) (Nat.le_of_ble_eq_true rfl) ?_
              rintro x360 M361 ⟨hB362, kp363, kp364, kp365, kp366, kp367, kp368, h369, h370, h371, h372, h373, h374, h375⟩
              have hB376 : BF fQ M M361 := BF.go hB0 hB362
              have kp377 : mI M361 24 = mI M 24 := kp_go rfl kp364
              have kp378 : mI M361 25 = mI M 25 := kp_go rfl kp365
              have kp379 : mI M361 26 = mI M 26 := kp_go rfl kp366
              have kp380 : mI M361 27 = mI M 27 := kp_go rfl kp367
              have kp381 : mI M361 28 = mI M 28 := kp_go rfl kp368
              have kp382 : mI M361 23 = mI M 23 := kp_go rfl kp363
              refine vc_zret dX4_readOne_190 rfl (by first | decide | omega) (Nat.le_of_ble_eq_true rfl) (Nat.le_of_ble_eq_true rfl) ?_
              exact ⟨_, rfl, hB376, kp377, kp378, kp379, kp380, kp381, by omega, by omega, by omega, by omega, by omega, fun h => absurd h (by omega), Or.inr ⟨by omega, by omega, by rw [h374, h375]; first | exact r_two3 (by omega) (by omega) | exact r_par3 (by omega) (by omega) | exact r_neg3 (by omega) (by omega)⟩⟩
          · refine vc_aload_n dX4_readOne_173 rfl ?_
            refine vc_iconst dX4_readOne_174 rfl ?_
            refine vc_cVI dX4_readOne_175 (sfX4_failedF (M := M) hB0.1  g n p hR 1 ) rfl okX4_failed viX4_failed lkX4_122 (s_22 hB0.1.1) cl_4 rfl (by show 0 < 11 + 3 * (nf + 1); omega) ⟨rfl, rfl⟩ (Nat.le_of_ble_eq_true rfl) (Nat.le_of_ble_eq_true rfl) (Nat.le_of_ble_eq_true rfl) ?_
            rintro x383 M384 ⟨hB385, kp386, kp387, kp388, kp389, kp390, kp391, h392, h393, h394, h395, h396, h397, h398⟩
            have hB399 : BF fQ M M384 := BF.go hB0 hB385
            have kp400 : mI M384 24 = mI M 24 := kp_go rfl kp387
            have kp401 : mI M384 25 = mI M 25 := kp_go rfl kp388
            have kp402 : mI M384 26 = mI M 26 := kp_go rfl kp389
            have kp403 : mI M384 27 = mI M 27 := kp_go rfl kp390
            have kp404 : mI M384 28 = mI M 28 := kp_go rfl kp391
            have kp405 : mI M384 23 = mI M 23 := kp_go rfl kp386
            refine vc_zret dX4_readOne_178 rfl (by first | decide | omega) (Nat.le_of_ble_eq_true rfl) (Nat.le_of_ble_eq_true rfl) ?_
            exact ⟨_, rfl, hB399, kp400, kp401, kp402, kp403, kp404, by omega, by omega, by omega, by omega, by omega, fun h => absurd h (by omega), Or.inr ⟨by omega, by omega, by rw [h397, h398]; exact r_no (by omega) (by omega) (by omega) (by omega) (by omega)⟩⟩
      · refine vc_aload_n dX4_readOne_127 rfl ?_
        refine vc_getI dX4_readOne_128 flX4_119 (s_22 hB0.1.1) rfl ?_
        refine vc_bipush dX4_readOne_131 rfl ?_
        refine vc_icmp_eq dX4_readOne_133 (fun h406 => ?_) (fun h406 => ?_)
        · refine vc_iconst dX4_readOne_145 rfl ?_
          refine vc_goto dX4_readOne_146 ?_
          refine vc_istore_n dX4_readOne_150 (Nat.le_of_ble_eq_true rfl) rfl (show _ = [some (aR 22), some (aI d), some (aI 1), none] from rfl) ?_
          refine vc_iload_n dX4_readOne_151 rfl ?_
          refine vc_if_ne dX4_readOne_152 (fun h407 => ?_) (fun h407 => by exfalso; omega)
          refine vc_iload_n dX4_readOne_179 rfl ?_
          refine vc_bipush dX4_readOne_180 rfl ?_
          refine vc_icmp_lt dX4_readOne_182 (fun h408 => ?_) (fun h408 => ?_)
          · refine vc_aload_n dX4_readOne_191 rfl ?_
            refine vc_getI dX4_readOne_192 flX4_119 (s_22 hB0.1.1) rfl ?_
            refine vc_nameI (fun x409 ex409 => ?_)
            refine vc_istore_n dX4_readOne_195 (Nat.le_of_ble_eq_true rfl) rfl (show _ = [some (aR 22), some (aI d), some (aI 1), some (aI x409)] from rfl) ?_
            refine vc_aload_n dX4_readOne_196 rfl ?_
            refine vc_cVI dX4_readOne_197 (sfX4_takeTokenF (M := M) hB0.1  g n p hR (by omega)) rfl okX4_takeToken viX4_takeToken lkX4_65 (s_22 hB0.1.1) cl_4 rfl (by show 0 < 11 + 3 * (nf + 1); omega) ⟨rfl, rfl⟩ (Nat.le_of_ble_eq_true rfl) (Nat.le_of_ble_eq_true rfl) (Nat.le_of_ble_eq_true rfl) ?_
            rintro x410 M411 ⟨hB412, kp413, kp414, kp415, kp416, kp417, kp418, h419, h420, h421, h422, h423, h424⟩
            have hB425 : BF fQ M M411 := BF.go hB0 hB412
            have kp426 : mI M411 24 = mI M 24 := kp_go rfl kp414
            have kp427 : mI M411 25 = mI M 25 := kp_go rfl kp415
            have kp428 : mI M411 26 = mI M 26 := kp_go rfl kp416
            have kp429 : mI M411 27 = mI M 27 := kp_go rfl kp417
            have kp430 : mI M411 28 = mI M 28 := kp_go rfl kp418
            have kp431 : mI M411 23 = mI M 23 := kp_go rfl kp413
            have em432 : EM M M411 ([]) := EM.suf em0 (by omega) kp413
            refine vc_pop dX4_readOne_200 rfl ?_
            refine vc_iload_n dX4_readOne_201 rfl ?_
            refine vc_if_eq dX4_readOne_202 (fun h433 => by exfalso; omega) (fun h433 => ?_)
            refine vc_aload_n dX4_readOne_205 rfl ?_
            refine vc_bipush dX4_readOne_206 rfl ?_
            refine vc_cVI dX4_readOne_208 (sfX4_readWordF (M := M411) hB425.1  g n (nx g n p) h424 19 (by omega) (by omega)) rfl okX4_readWord viX4_readWord lkX4_151 (s_22 hB425.1.1) cl_4 rfl (by show 1 < 11 + 3 * (nf + 1); omega) ⟨rfl, rfl⟩ (Nat.le_of_ble_eq_true rfl) (Nat.le_of_ble_eq_true rfl) (Nat.le_of_ble_eq_true rfl) ?_
            rintro x434 M435 ⟨hB436, kp437, kp438, kp439, kp440, kp441, kp442, h443, h444, h445, h446, h447, h448⟩
            have hB449 : BF fQ M M435 := BF.go hB425 hB436
            have kp450 : mI M435 24 = mI M 24 := kp_go kp426 kp438
            have kp451 : mI M435 25 = mI M 25 := kp_go kp427 kp439
            have kp452 : mI M435 26 = mI M 26 := kp_go kp428 kp440
            have kp453 : mI M435 27 = mI M 27 := kp_go kp429 kp441
            have kp454 : mI M435 28 = mI M 28 := kp_go kp430 kp442
            have kp455 : mI M435 23 = mI M 23 := kp_go kp431 kp437
            refine vc_if_eq dX4_readOne_211 (fun h456 => ?_) (fun h456 => ?_)
            · refine vc_iconst dX4_readOne_278 rfl ?_
              refine vc_zret dX4_readOne_279 rfl (by first | decide | omega) (Nat.le_of_ble_eq_true rfl) (Nat.le_of_ble_eq_true rfl) ?_
              have hb457 := TR.bad h448 (by omega)
              exact ⟨_, rfl, hB449, kp450, kp451, kp452, kp453, kp454, by omega, by omega, by omega, by omega, by omega, fun h => absurd h (by omega), Or.inr ⟨by omega, by omega, by rw [hb457.2.1, hb457.2.2]; exact r_two1 (by omega) (by omega) (by omega)⟩⟩
            · have e458 := TR.ok h448 (by omega)
              have he459 := e458.1
              have rg460 := RS.rg h424
              have kt461 : ∀ o, Rn (tk g n) (nx g n) w (41 :: sk) false (nx g n (nx g n p)) o → Rn (tk g n) (nx g n) w sk false p o := fun o r => r_two (by omega) (by omega) (by omega) r
              have em462 : EM M M435 ([]) := EM.suf em432 (by omega) kp437
              refine vc_aload_n dX4_readOne_214 rfl ?_
              refine vc_iload_n dX4_readOne_215 rfl ?_
              refine vc_iconst dX4_readOne_216 rfl ?_
              refine vc_iaddE dX4_readOne_217 (by omega) (by omega) ?_
              refine vc_cVI dX4_readOne_218 (hs (M := M435) hB449.1  (d + 1) (by omega) (by omega) g n (nx g n (nx g n p)) e458.2 w (41 :: sk) (by first | (rw [List.length_cons]; omega) | omega) rfl (by rw [show mI M435 22 14 = mI M 22 14 by omega]; exact hw) (by omega) (by omega)) rfl (okX4_readSum (13 + 3 * nf)) (viX4_readSum (13 + 3 * nf)) (lkX4_132 (13 + 3 * nf)) (s_22 hB449.1.1) cl_4 rfl (by show (13 + 3 * nf) < 11 + 3 * (nf + 1); omega) ⟨rfl, rfl⟩ (Nat.le_of_ble_eq_true rfl) (Nat.le_of_ble_eq_true rfl) (Nat.le_of_ble_eq_true rfl) ?_
              rintro x463 M464 ⟨hB465, kp466, kp467, kp468, kp469, kp470, h471, h472, h473, h474, h475, h476, h477⟩
              have hB478 : BF fQ M M464 := BF.go hB449 hB465
              have kp479 : mI M464 24 = mI M 24 := kp_go kp450 kp466
              have kp480 : mI M464 25 = mI M 25 := kp_go kp451 kp467
              have kp481 : mI M464 26 = mI M 26 := kp_go kp452 kp468
              have kp482 : mI M464 27 = mI M 27 := kp_go kp453 kp469
              have kp483 : mI M464 28 = mI M 28 := kp_go kp454 kp470
              refine vc_if_eq dX4_readOne_221 (fun h484 => ?_) (fun h484 => ?_)
              · refine vc_iconst dX4_readOne_278 rfl ?_
                refine vc_zret dX4_readOne_279 rfl (by first | decide | omega) (Nat.le_of_ble_eq_true rfl) (Nat.le_of_ble_eq_true rfl) ?_
                exact ⟨_, rfl, hB478, kp479, kp480, kp481, kp482, kp483, by omega, by omega, by omega, by omega, by omega, fun h => absurd h (by omega), Or.inr ⟨by omega, (LR.bad h477 (by omega)).1, kt461 _ (LR.bad h477 (by omega)).2⟩⟩
              · obtain ⟨q485, hl486, hR487, hE488, hk489⟩ := LR.ok h477 (by omega)
                unfold EOp at hE488
                have kt490 : ∀ o, Rn (tk g n) (nx g n) w (41 :: sk) true q485 o → Rn (tk g n) (nx g n) w sk false p o := fun o r => kt461 o (hk489 o r)
                obtain ⟨q491, c492, ⟨w493, w494, w495, w496, w497⟩, E499, f498⟩ := h476 (by omega)
                have e500 := RS.uq w493 hR487
                subst e500
                have rg501 := RS.rg hR487
                unfold EOp at E499
                have em502 : EM M M464 (c492) := EM.app (by omega) em462 w494
                refine vc_aload_n dX4_readOne_224 rfl ?_
                refine vc_bipush dX4_readOne_225 rfl ?_
                refine vc_cVI dX4_readOne_227 (sfX4_readSignF (M := M464) hB478.1  g n q485 hR487 44 (by omega) (by omega)) rfl okX4_readSign viX4_readSign lkX4_141 (s_22 hB478.1.1) cl_4 rfl (by show 1 < 11 + 3 * (nf + 1); omega) ⟨rfl, rfl⟩ (Nat.le_of_ble_eq_true rfl) (Nat.le_of_ble_eq_true rfl) (Nat.le_of_ble_eq_true rfl) ?_
                rintro x503 M504 ⟨hB505, kp506, kp507, kp508, kp509, kp510, kp511, h512, h513, h514, h515, h516, h517⟩
                have hB518 : BF fQ M M504 := BF.go hB478 hB505
                have kp519 : mI M504 24 = mI M 24 := kp_go kp479 kp507
                have kp520 : mI M504 25 = mI M 25 := kp_go kp480 kp508
                have kp521 : mI M504 26 = mI M 26 := kp_go kp481 kp509
                have kp522 : mI M504 27 = mI M 27 := kp_go kp482 kp510
                have kp523 : mI M504 28 = mI M 28 := kp_go kp483 kp511
                refine vc_if_eq dX4_readOne_230 (fun h524 => ?_) (fun h524 => ?_)
                · refine vc_iconst dX4_readOne_278 rfl ?_
                  refine vc_zret dX4_readOne_279 rfl (by first | decide | omega) (Nat.le_of_ble_eq_true rfl) (Nat.le_of_ble_eq_true rfl) ?_
                  have hb525 := TR.bad h517 (by omega)
                  exact ⟨_, rfl, hB518, kp519, kp520, kp521, kp522, kp523, by omega, by omega, by omega, by omega, by omega, fun h => absurd h (by omega), Or.inr ⟨by omega, by omega, by rw [hb525.2.1, hb525.2.2]; exact kt490 _ (t_b41 hE488 (by omega))⟩⟩
                · have e526 := TR.ok h517 (by omega)
                  have he527 := e526.1
                  have rg528 := RS.rg hR487
                  have kt529 : ∀ o, Rn (tk g n) (nx g n) w (42 :: sk) false (nx g n q485) o → Rn (tk g n) (nx g n) w sk false p o := fun o r => kt490 o (t_com (by omega) r)
                  have em530 : EM M M504 c492 := EM.suf em502 (by omega) kp506
                  refine vc_aload_n dX4_readOne_233 rfl ?_
                  refine vc_iload_n dX4_readOne_234 rfl ?_
                  refine vc_iconst dX4_readOne_235 rfl ?_
                  refine vc_iaddE dX4_readOne_236 (by omega) (by omega) ?_
                  refine vc_cVI dX4_readOne_237 (hs (M := M504) hB518.1  (d + 1) (by omega) (by omega) g n (nx g n q485) e526.2 w (42 :: sk) (by first | (rw [List.length_cons]; omega) | omega) rfl (by rw [show mI M504 22 14 = mI M 22 14 by omega]; exact hw) (by omega) (by omega)) rfl (okX4_readSum (13 + 3 * nf)) (viX4_readSum (13 + 3 * nf)) (lkX4_132 (13 + 3 * nf)) (s_22 hB518.1.1) cl_4 rfl (by show (13 + 3 * nf) < 11 + 3 * (nf + 1); omega) ⟨rfl, rfl⟩ (Nat.le_of_ble_eq_true rfl) (Nat.le_of_ble_eq_true rfl) (Nat.le_of_ble_eq_true rfl) ?_
                  rintro x531 M532 ⟨hB533, kp534, kp535, kp536, kp537, kp538, h539, h540, h541, h542, h543, h544, h545⟩
                  have hB546 : BF fQ M M532 := BF.go hB518 hB533
                  have kp547 : mI M532 24 = mI M 24 := kp_go kp519 kp534
                  have kp548 : mI M532 25 = mI M 25 := kp_go kp520 kp535
                  have kp549 : mI M532 26 = mI M 26 := kp_go kp521 kp536
                  have kp550 : mI M532 27 = mI M 27 := kp_go kp522 kp537
                  have kp551 : mI M532 28 = mI M 28 := kp_go kp523 kp538
                  refine vc_if_eq dX4_readOne_240 (fun h552 => ?_) (fun h552 => ?_)
                  · refine vc_iconst dX4_readOne_278 rfl ?_
                    refine vc_zret dX4_readOne_279 rfl (by first | decide | omega) (Nat.le_of_ble_eq_true rfl) (Nat.le_of_ble_eq_true rfl) ?_
                    exact ⟨_, rfl, hB546, kp547, kp548, kp549, kp550, kp551, by omega, by omega, by omega, by omega, by omega, fun h => absurd h (by omega), Or.inr ⟨by omega, (LR.bad h545 (by omega)).1, kt529 _ (LR.bad h545 (by omega)).2⟩⟩
                  · obtain ⟨q553, hl554, hR555, hE556, hk557⟩ := LR.ok h545 (by omega)
                    unfold EOp at hE556
                    have kt558 : ∀ o, Rn (tk g n) (nx g n) w (42 :: sk) true q553 o → Rn (tk g n) (nx g n) w sk false p o := fun o r => kt529 o (hk557 o r)
                    obtain ⟨q559, c560, ⟨w561, w562, w563, w564, w565⟩, E567, f566⟩ := h544 (by omega)
                    have e568 := RS.uq w561 hR555
                    subst e568
                    have rg569 := RS.rg hR555
                    unfold EOp at E567
                    have em570 : EM M M532 (c492 ++ c560) := EM.app (by omega) em530 w562
                    refine vc_aload_n dX4_readOne_243 rfl ?_
                    refine vc_bipush dX4_readOne_244 rfl ?_
                    refine vc_cVI dX4_readOne_246 (sfX4_readWordF (M := M532) hB546.1  g n q553 hR555 20 (by omega) (by omega)) rfl okX4_readWord viX4_readWord lkX4_151 (s_22 hB546.1.1) cl_4 rfl (by show 1 < 11 + 3 * (nf + 1); omega) ⟨rfl, rfl⟩ (Nat.le_of_ble_eq_true rfl) (Nat.le_of_ble_eq_true rfl) (Nat.le_of_ble_eq_true rfl) ?_
                    rintro x571 M572 ⟨hB573, kp574, kp575, kp576, kp577, kp578, kp579, h580, h581, h582, h583, h584, h585⟩
                    have hB586 : BF fQ M M572 := BF.go hB546 hB573
                    have kp587 : mI M572 24 = mI M 24 := kp_go kp547 kp575
                    have kp588 : mI M572 25 = mI M 25 := kp_go kp548 kp576
                    have kp589 : mI M572 26 = mI M 26 := kp_go kp549 kp577
                    have kp590 : mI M572 27 = mI M 27 := kp_go kp550 kp578
                    have kp591 : mI M572 28 = mI M 28 := kp_go kp551 kp579
                    refine vc_if_eq dX4_readOne_249 (fun h592 => ?_) (fun h592 => ?_)
                    · refine vc_iconst dX4_readOne_278 rfl ?_
                      refine vc_zret dX4_readOne_279 rfl (by first | decide | omega) (Nat.le_of_ble_eq_true rfl) (Nat.le_of_ble_eq_true rfl) ?_
                      have hb593 := TR.bad h585 (by omega)
                      exact ⟨_, rfl, hB586, kp587, kp588, kp589, kp590, kp591, by omega, by omega, by omega, by omega, by omega, fun h => absurd h (by omega), Or.inr ⟨by omega, by omega, by rw [hb593.2.1, hb593.2.2]; exact kt558 _ (t_b42 hE556 (by omega))⟩⟩
                    · have e594 := TR.ok h585 (by omega)
                      have he595 := e594.1
                      have rg596 := RS.rg hR555
                      have kt597 : ∀ o, Rn (tk g n) (nx g n) w (dm sk) true (nx g n q553) o → Rn (tk g n) (nx g n) w sk false p o := fun o r => kt558 o (t_end (by omega) r)
                      have em598 : EM M M572 (c492 ++ c560) := EM.suf em570 (by omega) kp574
                      refine vc_aload_n dX4_readOne_252 rfl ?_
                      refine vc_iload_n dX4_readOne_253 rfl ?_
                      refine vc_bipush dX4_readOne_254 rfl ?_
                      refine vc_icmp_ne dX4_readOne_256 (fun h599 => by exfalso; omega) (fun h599 => ?_)
                      refine vc_sipush dX4_readOne_259 rfl ?_
                      refine vc_goto dX4_readOne_262 ?_
                      refine vc_cVI dX4_readOne_268 (sfX4_emitF (M := M572) hB586.1  g n (nx g n q553) e594.2 20004 (by omega)) rfl okX4_emit viX4_emit lkX4_176 (s_22 hB586.1.1) cl_4 rfl (by show 0 < 11 + 3 * (nf + 1); omega) ⟨rfl, rfl⟩ (Nat.le_of_ble_eq_true rfl) (Nat.le_of_ble_eq_true rfl) (Nat.le_of_ble_eq_true rfl) ?_
                      rintro x600 M601 ⟨hB602, kp603, kp604, kp605, kp606, kp607, h608, h609, h610, h611, h612, h613, h614⟩
                      have hB615 : BF fQ M M601 := BF.go hB586 hB602
                      have kp616 : mI M601 24 = mI M 24 := kp_go kp587 kp603
                      have kp617 : mI M601 25 = mI M 25 := kp_go kp588 kp604
                      have kp618 : mI M601 26 = mI M 26 := kp_go kp589 kp605
                      have kp619 : mI M601 27 = mI M 27 := kp_go kp590 kp606
                      have kp620 : mI M601 28 = mI M 28 := kp_go kp591 kp607
                      have em621 : EM M M601 ((c492 ++ c560) ++ [((7 : Int), (0 : Int))]) := EM.app (by omega) em598 (h613 ((7 : Int), (0 : Int)) (by rfl))
                      refine vc_if_eq dX4_readOne_271 (fun h622 => by exfalso; omega) (fun h622 => ?_)
                      refine vc_iconst dX4_readOne_274 rfl ?_
                      refine vc_goto dX4_readOne_275 ?_
                      refine vc_zret dX4_readOne_279 rfl (by first | decide | omega) (Nat.le_of_ble_eq_true rfl) (Nat.le_of_ble_eq_true rfl) ?_
                      rw [List.append_assoc] at em621
                      exact ⟨_, rfl, hB615, kp616, kp617, kp618, kp619, kp620, by omega, by omega, by omega, by omega, by omega, fun _ => ⟨nx g n q553, c492 ++ (c560 ++ [(7, 0)]), ⟨h614, em621, by omega, H1.two (H1.up w496 (by omega)) w564 (by decide) 0 (by omega), rgO.app w497 (rgO.app w565 (rgO.one (by decide)))⟩, two_fw (o := 41) (Or.inl ⟨by omega, rfl⟩) rfl rfl f498 (by omega) rfl f566 (by omega)⟩, Or.inl ⟨by omega, nx g n q553, by omega, h614, trivial, kt597⟩⟩
          · refine vc_aload_n dX4_readOne_185 rfl ?_
            refine vc_iconst dX4_readOne_186 rfl ?_
            refine vc_cVI dX4_readOne_187 (sfX4_failedF (M := M) hB0.1  g n p hR 3 ) rfl okX4_failed viX4_failed lkX4_122 (s_22 hB0.1.1) cl_4 rfl (by show 0 < 11 + 3 * (nf + 1); omega) ⟨rfl, rfl⟩ (Nat.le_of_ble_eq_true rfl) (Nat.le_of_ble_eq_true rfl) (Nat.le_of_ble_eq_true rfl) ?_
            rintro x623 M624 ⟨hB625, kp626, kp627, kp628, kp629, kp630, kp631, h632, h633, h634, h635, h636, h637, h638⟩
            have hB639 : BF fQ M M624 := BF.go hB0 hB625
            have kp640 : mI M624 24 = mI M 24 := kp_go rfl kp627
            have kp641 : mI M624 25 = mI M 25 := kp_go rfl kp628
            have kp642 : mI M624 26 = mI M 26 := kp_go rfl kp629
            have kp643 : mI M624 27 = mI M 27 := kp_go rfl kp630
            have kp644 : mI M624 28 = mI M 28 := kp_go rfl kp631
            have kp645 : mI M624 23 = mI M 23 := kp_go rfl kp626
            refine vc_zret dX4_readOne_190 rfl (by first | decide | omega) (Nat.le_of_ble_eq_true rfl) (Nat.le_of_ble_eq_true rfl) ?_
            exact ⟨_, rfl, hB639, kp640, kp641, kp642, kp643, kp644, by omega, by omega, by omega, by omega, by omega, fun h => absurd h (by omega), Or.inr ⟨by omega, by omega, by rw [h637, h638]; first | exact r_two3 (by omega) (by omega) | exact r_par3 (by omega) (by omega) | exact r_neg3 (by omega) (by omega)⟩⟩
        · refine vc_aload_n dX4_readOne_136 rfl ?_
          refine vc_getI dX4_readOne_137 flX4_119 (s_22 hB0.1.1) rfl ?_
          refine vc_bipush dX4_readOne_140 rfl ?_
          refine vc_icmp_ne dX4_readOne_142 (fun h646 => ?_) (fun h646 => ?_)
          · refine vc_iconst dX4_readOne_149 rfl ?_
            refine vc_istore_n dX4_readOne_150 (Nat.le_of_ble_eq_true rfl) rfl (show _ = [some (aR 22), some (aI d), some (aI 0), none] from rfl) ?_
            refine vc_iload_n dX4_readOne_151 rfl ?_
            refine vc_if_ne dX4_readOne_152 (fun h647 => by exfalso; omega) (fun h647 => ?_)
            refine vc_aload_n dX4_readOne_155 rfl ?_
            refine vc_bipush dX4_readOne_156 rfl ?_
            refine vc_cVI dX4_readOne_158 (sfX4_isSignF (M := M) hB0.1  40 ) rfl okX4_isSign viX4_isSign lkX4_163 (s_22 hB0.1.1) cl_4 rfl (by show 0 < 11 + 3 * (nf + 1); omega) ⟨rfl, rfl⟩ (Nat.le_of_ble_eq_true rfl) (Nat.le_of_ble_eq_true rfl) (Nat.le_of_ble_eq_true rfl) ?_
            rintro x648 _ ⟨rfl, h649, h650, h651⟩
            refine vc_if_ne dX4_readOne_161 (fun h652 => ?_) (fun h652 => ?_)
            · refine vc_iload_n dX4_readOne_179 rfl ?_
              refine vc_bipush dX4_readOne_180 rfl ?_
              refine vc_icmp_lt dX4_readOne_182 (fun h653 => ?_) (fun h653 => ?_)
              · refine vc_aload_n dX4_readOne_191 rfl ?_
                refine vc_getI dX4_readOne_192 flX4_119 (s_22 hB0.1.1) rfl ?_
                refine vc_nameI (fun x654 ex654 => ?_)
                refine vc_istore_n dX4_readOne_195 (Nat.le_of_ble_eq_true rfl) rfl (show _ = [some (aR 22), some (aI d), some (aI 0), some (aI x654)] from rfl) ?_
                refine vc_aload_n dX4_readOne_196 rfl ?_
                refine vc_cVI dX4_readOne_197 (sfX4_takeTokenF (M := M) hB0.1  g n p hR (by omega)) rfl okX4_takeToken viX4_takeToken lkX4_65 (s_22 hB0.1.1) cl_4 rfl (by show 0 < 11 + 3 * (nf + 1); omega) ⟨rfl, rfl⟩ (Nat.le_of_ble_eq_true rfl) (Nat.le_of_ble_eq_true rfl) (Nat.le_of_ble_eq_true rfl) ?_
                rintro x655 M656 ⟨hB657, kp658, kp659, kp660, kp661, kp662, kp663, h664, h665, h666, h667, h668, h669⟩
                have hB670 : BF fQ M M656 := BF.go hB0 hB657
                have kp671 : mI M656 24 = mI M 24 := kp_go rfl kp659
                have kp672 : mI M656 25 = mI M 25 := kp_go rfl kp660
                have kp673 : mI M656 26 = mI M 26 := kp_go rfl kp661
                have kp674 : mI M656 27 = mI M 27 := kp_go rfl kp662
                have kp675 : mI M656 28 = mI M 28 := kp_go rfl kp663
                have kp676 : mI M656 23 = mI M 23 := kp_go rfl kp658
                have em677 : EM M M656 ([]) := EM.suf em0 (by omega) kp658
                refine vc_pop dX4_readOne_200 rfl ?_
                refine vc_iload_n dX4_readOne_201 rfl ?_
                refine vc_if_eq dX4_readOne_202 (fun h678 => ?_) (fun h678 => by exfalso; omega)
                refine vc_iload_n dX4_readOne_280 rfl ?_
                refine vc_bipush dX4_readOne_281 rfl ?_
                refine vc_icmp_ne dX4_readOne_283 (fun h679 => ?_) (fun h679 => ?_)
                · have kt680 : ∀ o, Rn (tk g n) (nx g n) w (2 :: sk) false (nx g n p) o → Rn (tk g n) (nx g n) w sk false p o := fun o r => r_neg (by omega) (by omega) r
                  refine vc_aload_n dX4_readOne_311 rfl ?_
                  refine vc_iload_n dX4_readOne_312 rfl ?_
                  refine vc_iconst dX4_readOne_313 rfl ?_
                  refine vc_iaddE dX4_readOne_314 (by omega) (by omega) ?_
                  refine vc_cVI dX4_readOne_315 (ho (M := M656) hB670.1  (d + 1) (by omega) (by omega) g n (nx g n p) h669 w (2 :: sk) (by first | (rw [List.length_cons]; omega) | omega) (by rw [show mI M656 22 14 = mI M 22 14 by omega]; exact hw) (by omega) (by omega)) rfl (okX4_readOne (11 + 3 * nf)) (viX4_readOne (11 + 3 * nf)) (lkX4_179 (11 + 3 * nf)) (s_22 hB670.1.1) cl_4 rfl (by show (11 + 3 * nf) < 11 + 3 * (nf + 1); omega) ⟨rfl, rfl⟩ (Nat.le_of_ble_eq_true rfl) (Nat.le_of_ble_eq_true rfl) (Nat.le_of_ble_eq_true rfl) ?_
                  rintro x681 M682 ⟨hB683, kp684, kp685, kp686, kp687, kp688, h689, h690, h691, h692, h693, h694, h695⟩
                  have hB696 : BF fQ M M682 := BF.go hB670 hB683
                  have kp697 : mI M682 24 = mI M 24 := kp_go kp671 kp684
                  have kp698 : mI M682 25 = mI M 25 := kp_go kp672 kp685
                  have kp699 : mI M682 26 = mI M 26 := kp_go kp673 kp686
                  have kp700 : mI M682 27 = mI M 27 := kp_go kp674 kp687
                  have kp701 : mI M682 28 = mI M 28 := kp_go kp675 kp688
                  refine vc_if_eq dX4_readOne_318 (fun h702 => ?_) (fun h702 => ?_)
                  · refine vc_iconst dX4_readOne_335 rfl ?_
                    refine vc_zret dX4_readOne_336 rfl (by first | decide | omega) (Nat.le_of_ble_eq_true rfl) (Nat.le_of_ble_eq_true rfl) ?_
                    exact ⟨_, rfl, hB696, kp697, kp698, kp699, kp700, kp701, by omega, by omega, by omega, by omega, by omega, fun h => absurd h (by omega), Or.inr ⟨by omega, (LR.bad h695 (by omega)).1, kt680 _ (LR.bad h695 (by omega)).2⟩⟩
                  · obtain ⟨q703, hl704, hR705, hE706, hk707⟩ := LR.ok h695 (by omega)
                    have kt708 : ∀ o, Rn (tk g n) (nx g n) w (dm sk) true q703 o → Rn (tk g n) (nx g n) w sk false p o := fun o r => kt680 o (hk707 o r)
                    obtain ⟨q709, c710, ⟨w711, w712, w713, w714, w715⟩, f716⟩ := h694 (by omega)
                    have e718 := RS.uq w711 hR705
                    subst e718
                    have rg719 := RS.rg hR705
                    have em720 : EM M M682 (c710) := EM.app (by omega) em677 w712
                    refine vc_aload_n dX4_readOne_321 rfl ?_
                    refine vc_sipush dX4_readOne_322 rfl ?_
                    refine vc_cVI dX4_readOne_325 (sfX4_emitF (M := M682) hB696.1  g n q703 hR705 20006 (by omega)) rfl okX4_emit viX4_emit lkX4_176 (s_22 hB696.1.1) cl_4 rfl (by show 0 < 11 + 3 * (nf + 1); omega) ⟨rfl, rfl⟩ (Nat.le_of_ble_eq_true rfl) (Nat.le_of_ble_eq_true rfl) (Nat.le_of_ble_eq_true rfl) ?_
                    rintro x721 M722 ⟨hB723, kp724, kp725, kp726, kp727, kp728, h729, h730, h731, h732, h733, h734, h735⟩
                    have hB736 : BF fQ M M722 := BF.go hB696 hB723
                    have kp737 : mI M722 24 = mI M 24 := kp_go kp697 kp724
                    have kp738 : mI M722 25 = mI M 25 := kp_go kp698 kp725
                    have kp739 : mI M722 26 = mI M 26 := kp_go kp699 kp726
                    have kp740 : mI M722 27 = mI M 27 := kp_go kp700 kp727
                    have kp741 : mI M722 28 = mI M 28 := kp_go kp701 kp728
                    have em742 : EM M M722 ((c710) ++ [((2 : Int), (0 : Int))]) := EM.app (by omega) em720 (h734 ((2 : Int), (0 : Int)) (by rfl))
                    refine vc_if_eq dX4_readOne_328 (fun h743 => by exfalso; omega) (fun h743 => ?_)
                    refine vc_iconst dX4_readOne_331 rfl ?_
                    refine vc_goto dX4_readOne_332 ?_
                    refine vc_zret dX4_readOne_336 rfl (by first | decide | omega) (Nat.le_of_ble_eq_true rfl) (Nat.le_of_ble_eq_true rfl) ?_
                    exact ⟨_, rfl, hB736, kp737, kp738, kp739, kp740, kp741, by omega, by omega, by omega, by omega, by omega, fun _ => ⟨q703, (c710) ++ [((2 : Int), (0 : Int))], ⟨h735, em742, by omega, H1.neg (H1.up w714 (by omega)) 0, rgO.app w715 (rgO.one (by decide))⟩, neg_fw (by omega) rfl f716⟩, Or.inl ⟨by omega, q703, by omega, h735, trivial, kt708⟩⟩
                · have kt744 : ∀ o, Rn (tk g n) (nx g n) w (40 :: sk) false (nx g n p) o → Rn (tk g n) (nx g n) w sk false p o := fun o r => r_par (by omega) (by omega) r
                  refine vc_aload_n dX4_readOne_286 rfl ?_
                  refine vc_iload_n dX4_readOne_287 rfl ?_
                  refine vc_iconst dX4_readOne_288 rfl ?_
                  refine vc_iaddE dX4_readOne_289 (by omega) (by omega) ?_
                  refine vc_cVI dX4_readOne_290 (hs (M := M656) hB670.1  (d + 1) (by omega) (by omega) g n (nx g n p) h669 w (40 :: sk) (by first | (rw [List.length_cons]; omega) | omega) rfl (by rw [show mI M656 22 14 = mI M 22 14 by omega]; exact hw) (by omega) (by omega)) rfl (okX4_readSum (13 + 3 * nf)) (viX4_readSum (13 + 3 * nf)) (lkX4_132 (13 + 3 * nf)) (s_22 hB670.1.1) cl_4 rfl (by show (13 + 3 * nf) < 11 + 3 * (nf + 1); omega) ⟨rfl, rfl⟩ (Nat.le_of_ble_eq_true rfl) (Nat.le_of_ble_eq_true rfl) (Nat.le_of_ble_eq_true rfl) ?_
                  rintro x745 M746 ⟨hB747, kp748, kp749, kp750, kp751, kp752, h753, h754, h755, h756, h757, h758, h759⟩
                  have hB760 : BF fQ M M746 := BF.go hB670 hB747
                  have kp761 : mI M746 24 = mI M 24 := kp_go kp671 kp748
                  have kp762 : mI M746 25 = mI M 25 := kp_go kp672 kp749
                  have kp763 : mI M746 26 = mI M 26 := kp_go kp673 kp750
                  have kp764 : mI M746 27 = mI M 27 := kp_go kp674 kp751
                  have kp765 : mI M746 28 = mI M 28 := kp_go kp675 kp752
                  refine vc_if_eq dX4_readOne_293 (fun h766 => ?_) (fun h766 => ?_)
                  · refine vc_iconst dX4_readOne_309 rfl ?_
                    refine vc_zret dX4_readOne_310 rfl (by first | decide | omega) (Nat.le_of_ble_eq_true rfl) (Nat.le_of_ble_eq_true rfl) ?_
                    exact ⟨_, rfl, hB760, kp761, kp762, kp763, kp764, kp765, by omega, by omega, by omega, by omega, by omega, fun h => absurd h (by omega), Or.inr ⟨by omega, (LR.bad h759 (by omega)).1, kt744 _ (LR.bad h759 (by omega)).2⟩⟩
                  · obtain ⟨q767, hl768, hR769, hE770, hk771⟩ := LR.ok h759 (by omega)
                    unfold EOp at hE770
                    have kt772 : ∀ o, Rn (tk g n) (nx g n) w (40 :: sk) true q767 o → Rn (tk g n) (nx g n) w sk false p o := fun o r => kt744 o (hk771 o r)
                    obtain ⟨q773, c774, ⟨w775, w776, w777, w778, w779⟩, E781, f780⟩ := h758 (by omega)
                    have e782 := RS.uq w775 hR769
                    subst e782
                    have rg783 := RS.rg hR769
                    unfold EOp at E781
                    have em784 : EM M M746 (c774) := EM.app (by omega) em677 w776
                    refine vc_aload_n dX4_readOne_296 rfl ?_
                    refine vc_bipush dX4_readOne_297 rfl ?_
                    refine vc_cVI dX4_readOne_299 (sfX4_readSignF (M := M746) hB760.1  g n q767 hR769 41 (by omega) (by omega)) rfl okX4_readSign viX4_readSign lkX4_141 (s_22 hB760.1.1) cl_4 rfl (by show 1 < 11 + 3 * (nf + 1); omega) ⟨rfl, rfl⟩ (Nat.le_of_ble_eq_true rfl) (Nat.le_of_ble_eq_true rfl) (Nat.le_of_ble_eq_true rfl) ?_
                    rintro x785 M786 ⟨hB787, kp788, kp789, kp790, kp791, kp792, kp793, h794, h795, h796, h797, h798, h799⟩
                    have hB800 : BF fQ M M786 := BF.go hB760 hB787
                    have kp801 : mI M786 24 = mI M 24 := kp_go kp761 kp789
                    have kp802 : mI M786 25 = mI M 25 := kp_go kp762 kp790
                    have kp803 : mI M786 26 = mI M 26 := kp_go kp763 kp791
                    have kp804 : mI M786 27 = mI M 27 := kp_go kp764 kp792
                    have kp805 : mI M786 28 = mI M 28 := kp_go kp765 kp793
                    refine vc_if_eq dX4_readOne_302 (fun h806 => ?_) (fun h806 => ?_)
                    · refine vc_iconst dX4_readOne_309 rfl ?_
                      refine vc_zret dX4_readOne_310 rfl (by first | decide | omega) (Nat.le_of_ble_eq_true rfl) (Nat.le_of_ble_eq_true rfl) ?_
                      have hb807 := TR.bad h799 (by omega)
                      exact ⟨_, rfl, hB800, kp801, kp802, kp803, kp804, kp805, by omega, by omega, by omega, by omega, by omega, fun h => absurd h (by omega), Or.inr ⟨by omega, by omega, by rw [hb807.2.1, hb807.2.2]; exact kt772 _ (t_b40 hE770 (by omega))⟩⟩
                    · have e808 := TR.ok h799 (by omega)
                      have he809 := e808.1
                      have rg810 := RS.rg hR769
                      have kt811 : ∀ o, Rn (tk g n) (nx g n) w (dm sk) true (nx g n q767) o → Rn (tk g n) (nx g n) w sk false p o := fun o r => kt772 o (t_shut (by omega) r)
                      have em812 : EM M M786 c774 := EM.suf em784 (by omega) kp788
                      refine vc_iconst dX4_readOne_305 rfl ?_
                      refine vc_goto dX4_readOne_306 ?_
                      refine vc_zret dX4_readOne_310 rfl (by first | decide | omega) (Nat.le_of_ble_eq_true rfl) (Nat.le_of_ble_eq_true rfl) ?_
                      exact ⟨_, rfl, hB800, kp801, kp802, kp803, kp804, kp805, by omega, by omega, by omega, by omega, by omega, fun _ => ⟨nx g n q767, c774, ⟨e808.2, em812, by omega, H1.up w778 (by omega), w779⟩, par_fw (by omega) rfl f780 (by omega)⟩, Or.inl ⟨by omega, nx g n q767, by omega, e808.2, trivial, kt811⟩⟩
              · refine vc_aload_n dX4_readOne_185 rfl ?_
                refine vc_iconst dX4_readOne_186 rfl ?_
                refine vc_cVI dX4_readOne_187 (sfX4_failedF (M := M) hB0.1  g n p hR 3 ) rfl okX4_failed viX4_failed lkX4_122 (s_22 hB0.1.1) cl_4 rfl (by show 0 < 11 + 3 * (nf + 1); omega) ⟨rfl, rfl⟩ (Nat.le_of_ble_eq_true rfl) (Nat.le_of_ble_eq_true rfl) (Nat.le_of_ble_eq_true rfl) ?_
                rintro x813 M814 ⟨hB815, kp816, kp817, kp818, kp819, kp820, kp821, h822, h823, h824, h825, h826, h827, h828⟩
                have hB829 : BF fQ M M814 := BF.go hB0 hB815
                have kp830 : mI M814 24 = mI M 24 := kp_go rfl kp817
                have kp831 : mI M814 25 = mI M 25 := kp_go rfl kp818
                have kp832 : mI M814 26 = mI M 26 := kp_go rfl kp819
                have kp833 : mI M814 27 = mI M 27 := kp_go rfl kp820
                have kp834 : mI M814 28 = mI M 28 := kp_go rfl kp821
                have kp835 : mI M814 23 = mI M 23 := kp_go rfl kp816
                refine vc_zret dX4_readOne_190 rfl (by first | decide | omega) (Nat.le_of_ble_eq_true rfl) (Nat.le_of_ble_eq_true rfl) ?_
                exact ⟨_, rfl, hB829, kp830, kp831, kp832, kp833, kp834, by omega, by omega, by omega, by omega, by omega, fun h => absurd h (by omega), Or.inr ⟨by omega, by omega, by rw [h827, h828]; first | exact r_two3 (by omega) (by omega) | exact r_par3 (by omega) (by omega) | exact r_neg3 (by omega) (by omega)⟩⟩
            · refine vc_aload_n dX4_readOne_164 rfl ?_
              refine vc_bipush dX4_readOne_165 rfl ?_
              refine vc_cVI dX4_readOne_167 (sfX4_isSignF (M := M) hB0.1  45 ) rfl okX4_isSign viX4_isSign lkX4_163 (s_22 hB0.1.1) cl_4 rfl (by show 0 < 11 + 3 * (nf + 1); omega) ⟨rfl, rfl⟩ (Nat.le_of_ble_eq_true rfl) (Nat.le_of_ble_eq_true rfl) (Nat.le_of_ble_eq_true rfl) ?_
              rintro x836 _ ⟨rfl, h837, h838, h839⟩
              refine vc_if_ne dX4_readOne_170 (fun h840 => ?_) (fun h840 => ?_)
              · refine vc_iload_n dX4_readOne_179 rfl ?_
                refine vc_bipush dX4_readOne_180 rfl ?_
                refine vc_icmp_lt dX4_readOne_182 (fun h841 => ?_) (fun h841 => ?_)
                · refine vc_aload_n dX4_readOne_191 rfl ?_
                  refine vc_getI dX4_readOne_192 flX4_119 (s_22 hB0.1.1) rfl ?_
                  refine vc_nameI (fun x842 ex842 => ?_)
                  refine vc_istore_n dX4_readOne_195 (Nat.le_of_ble_eq_true rfl) rfl (show _ = [some (aR 22), some (aI d), some (aI 0), some (aI x842)] from rfl) ?_
                  refine vc_aload_n dX4_readOne_196 rfl ?_
                  refine vc_cVI dX4_readOne_197 (sfX4_takeTokenF (M := M) hB0.1  g n p hR (by omega)) rfl okX4_takeToken viX4_takeToken lkX4_65 (s_22 hB0.1.1) cl_4 rfl (by show 0 < 11 + 3 * (nf + 1); omega) ⟨rfl, rfl⟩ (Nat.le_of_ble_eq_true rfl) (Nat.le_of_ble_eq_true rfl) (Nat.le_of_ble_eq_true rfl) ?_
                  rintro x843 M844 ⟨hB845, kp846, kp847, kp848, kp849, kp850, kp851, h852, h853, h854, h855, h856, h857⟩
                  have hB858 : BF fQ M M844 := BF.go hB0 hB845
                  have kp859 : mI M844 24 = mI M 24 := kp_go rfl kp847
                  have kp860 : mI M844 25 = mI M 25 := kp_go rfl kp848
                  have kp861 : mI M844 26 = mI M 26 := kp_go rfl kp849
                  have kp862 : mI M844 27 = mI M 27 := kp_go rfl kp850
                  have kp863 : mI M844 28 = mI M 28 := kp_go rfl kp851
                  have kp864 : mI M844 23 = mI M 23 := kp_go rfl kp846
                  have em865 : EM M M844 ([]) := EM.suf em0 (by omega) kp846
                  refine vc_pop dX4_readOne_200 rfl ?_
                  refine vc_iload_n dX4_readOne_201 rfl ?_
                  refine vc_if_eq dX4_readOne_202 (fun h866 => ?_) (fun h866 => by exfalso; omega)
                  refine vc_iload_n dX4_readOne_280 rfl ?_
                  refine vc_bipush dX4_readOne_281 rfl ?_
                  refine vc_icmp_ne dX4_readOne_283 (fun h867 => ?_) (fun h867 => ?_)
                  · have kt868 : ∀ o, Rn (tk g n) (nx g n) w (2 :: sk) false (nx g n p) o → Rn (tk g n) (nx g n) w sk false p o := fun o r => r_neg (by omega) (by omega) r
                    refine vc_aload_n dX4_readOne_311 rfl ?_
                    refine vc_iload_n dX4_readOne_312 rfl ?_
                    refine vc_iconst dX4_readOne_313 rfl ?_
                    refine vc_iaddE dX4_readOne_314 (by omega) (by omega) ?_
                    refine vc_cVI dX4_readOne_315 (ho (M := M844) hB858.1  (d + 1) (by omega) (by omega) g n (nx g n p) h857 w (2 :: sk) (by first | (rw [List.length_cons]; omega) | omega) (by rw [show mI M844 22 14 = mI M 22 14 by omega]; exact hw) (by omega) (by omega)) rfl (okX4_readOne (11 + 3 * nf)) (viX4_readOne (11 + 3 * nf)) (lkX4_179 (11 + 3 * nf)) (s_22 hB858.1.1) cl_4 rfl (by show (11 + 3 * nf) < 11 + 3 * (nf + 1); omega) ⟨rfl, rfl⟩ (Nat.le_of_ble_eq_true rfl) (Nat.le_of_ble_eq_true rfl) (Nat.le_of_ble_eq_true rfl) ?_
                    rintro x869 M870 ⟨hB871, kp872, kp873, kp874, kp875, kp876, h877, h878, h879, h880, h881, h882, h883⟩
                    have hB884 : BF fQ M M870 := BF.go hB858 hB871
                    have kp885 : mI M870 24 = mI M 24 := kp_go kp859 kp872
                    have kp886 : mI M870 25 = mI M 25 := kp_go kp860 kp873
                    have kp887 : mI M870 26 = mI M 26 := kp_go kp861 kp874
                    have kp888 : mI M870 27 = mI M 27 := kp_go kp862 kp875
                    have kp889 : mI M870 28 = mI M 28 := kp_go kp863 kp876
                    refine vc_if_eq dX4_readOne_318 (fun h890 => ?_) (fun h890 => ?_)
                    · refine vc_iconst dX4_readOne_335 rfl ?_
                      refine vc_zret dX4_readOne_336 rfl (by first | decide | omega) (Nat.le_of_ble_eq_true rfl) (Nat.le_of_ble_eq_true rfl) ?_
                      exact ⟨_, rfl, hB884, kp885, kp886, kp887, kp888, kp889, by omega, by omega, by omega, by omega, by omega, fun h => absurd h (by omega), Or.inr ⟨by omega, (LR.bad h883 (by omega)).1, kt868 _ (LR.bad h883 (by omega)).2⟩⟩
                    · obtain ⟨q891, hl892, hR893, hE894, hk895⟩ := LR.ok h883 (by omega)
                      have kt896 : ∀ o, Rn (tk g n) (nx g n) w (dm sk) true q891 o → Rn (tk g n) (nx g n) w sk false p o := fun o r => kt868 o (hk895 o r)
                      obtain ⟨q897, c898, ⟨w899, w900, w901, w902, w903⟩, f904⟩ := h882 (by omega)
                      have e906 := RS.uq w899 hR893
                      subst e906
                      have rg907 := RS.rg hR893
                      have em908 : EM M M870 (c898) := EM.app (by omega) em865 w900
                      refine vc_aload_n dX4_readOne_321 rfl ?_
                      refine vc_sipush dX4_readOne_322 rfl ?_
                      refine vc_cVI dX4_readOne_325 (sfX4_emitF (M := M870) hB884.1  g n q891 hR893 20006 (by omega)) rfl okX4_emit viX4_emit lkX4_176 (s_22 hB884.1.1) cl_4 rfl (by show 0 < 11 + 3 * (nf + 1); omega) ⟨rfl, rfl⟩ (Nat.le_of_ble_eq_true rfl) (Nat.le_of_ble_eq_true rfl) (Nat.le_of_ble_eq_true rfl) ?_
                      rintro x909 M910 ⟨hB911, kp912, kp913, kp914, kp915, kp916, h917, h918, h919, h920, h921, h922, h923⟩
                      have hB924 : BF fQ M M910 := BF.go hB884 hB911
                      have kp925 : mI M910 24 = mI M 24 := kp_go kp885 kp912
                      have kp926 : mI M910 25 = mI M 25 := kp_go kp886 kp913
                      have kp927 : mI M910 26 = mI M 26 := kp_go kp887 kp914
                      have kp928 : mI M910 27 = mI M 27 := kp_go kp888 kp915
                      have kp929 : mI M910 28 = mI M 28 := kp_go kp889 kp916
                      have em930 : EM M M910 ((c898) ++ [((2 : Int), (0 : Int))]) := EM.app (by omega) em908 (h922 ((2 : Int), (0 : Int)) (by rfl))
                      refine vc_if_eq dX4_readOne_328 (fun h931 => by exfalso; omega) (fun h931 => ?_)
                      refine vc_iconst dX4_readOne_331 rfl ?_
                      refine vc_goto dX4_readOne_332 ?_
                      refine vc_zret dX4_readOne_336 rfl (by first | decide | omega) (Nat.le_of_ble_eq_true rfl) (Nat.le_of_ble_eq_true rfl) ?_
                      exact ⟨_, rfl, hB924, kp925, kp926, kp927, kp928, kp929, by omega, by omega, by omega, by omega, by omega, fun _ => ⟨q891, (c898) ++ [((2 : Int), (0 : Int))], ⟨h923, em930, by omega, H1.neg (H1.up w902 (by omega)) 0, rgO.app w903 (rgO.one (by decide))⟩, neg_fw (by omega) rfl f904⟩, Or.inl ⟨by omega, q891, by omega, h923, trivial, kt896⟩⟩
                  · have kt932 : ∀ o, Rn (tk g n) (nx g n) w (40 :: sk) false (nx g n p) o → Rn (tk g n) (nx g n) w sk false p o := fun o r => r_par (by omega) (by omega) r
                    refine vc_aload_n dX4_readOne_286 rfl ?_
                    refine vc_iload_n dX4_readOne_287 rfl ?_
                    refine vc_iconst dX4_readOne_288 rfl ?_
                    refine vc_iaddE dX4_readOne_289 (by omega) (by omega) ?_
                    refine vc_cVI dX4_readOne_290 (hs (M := M844) hB858.1  (d + 1) (by omega) (by omega) g n (nx g n p) h857 w (40 :: sk) (by first | (rw [List.length_cons]; omega) | omega) rfl (by rw [show mI M844 22 14 = mI M 22 14 by omega]; exact hw) (by omega) (by omega)) rfl (okX4_readSum (13 + 3 * nf)) (viX4_readSum (13 + 3 * nf)) (lkX4_132 (13 + 3 * nf)) (s_22 hB858.1.1) cl_4 rfl (by show (13 + 3 * nf) < 11 + 3 * (nf + 1); omega) ⟨rfl, rfl⟩ (Nat.le_of_ble_eq_true rfl) (Nat.le_of_ble_eq_true rfl) (Nat.le_of_ble_eq_true rfl) ?_
                    rintro x933 M934 ⟨hB935, kp936, kp937, kp938, kp939, kp940, h941, h942, h943, h944, h945, h946, h947⟩
                    have hB948 : BF fQ M M934 := BF.go hB858 hB935
                    have kp949 : mI M934 24 = mI M 24 := kp_go kp859 kp936
                    have kp950 : mI M934 25 = mI M 25 := kp_go kp860 kp937
                    have kp951 : mI M934 26 = mI M 26 := kp_go kp861 kp938
                    have kp952 : mI M934 27 = mI M 27 := kp_go kp862 kp939
                    have kp953 : mI M934 28 = mI M 28 := kp_go kp863 kp940
                    refine vc_if_eq dX4_readOne_293 (fun h954 => ?_) (fun h954 => ?_)
                    · refine vc_iconst dX4_readOne_309 rfl ?_
                      refine vc_zret dX4_readOne_310 rfl (by first | decide | omega) (Nat.le_of_ble_eq_true rfl) (Nat.le_of_ble_eq_true rfl) ?_
                      exact ⟨_, rfl, hB948, kp949, kp950, kp951, kp952, kp953, by omega, by omega, by omega, by omega, by omega, fun h => absurd h (by omega), Or.inr ⟨by omega, (LR.bad h947 (by omega)).1, kt932 _ (LR.bad h947 (by omega)).2⟩⟩
                    · obtain ⟨q955, hl956, hR957, hE958, hk959⟩ := LR.ok h947 (by omega)
                      unfold EOp at hE958
                      have kt960 : ∀ o, Rn (tk g n) (nx g n) w (40 :: sk) true q955 o → Rn (tk g n) (nx g n) w sk false p o := fun o r => kt932 o (hk959 o r)
                      obtain ⟨q961, c962, ⟨w963, w964, w965, w966, w967⟩, E969, f968⟩ := h946 (by omega)
                      have e970 := RS.uq w963 hR957
                      subst e970
                      have rg971 := RS.rg hR957
                      unfold EOp at E969
                      have em972 : EM M M934 (c962) := EM.app (by omega) em865 w964
                      refine vc_aload_n dX4_readOne_296 rfl ?_
                      refine vc_bipush dX4_readOne_297 rfl ?_
                      refine vc_cVI dX4_readOne_299 (sfX4_readSignF (M := M934) hB948.1  g n q955 hR957 41 (by omega) (by omega)) rfl okX4_readSign viX4_readSign lkX4_141 (s_22 hB948.1.1) cl_4 rfl (by show 1 < 11 + 3 * (nf + 1); omega) ⟨rfl, rfl⟩ (Nat.le_of_ble_eq_true rfl) (Nat.le_of_ble_eq_true rfl) (Nat.le_of_ble_eq_true rfl) ?_
                      rintro x973 M974 ⟨hB975, kp976, kp977, kp978, kp979, kp980, kp981, h982, h983, h984, h985, h986, h987⟩
                      have hB988 : BF fQ M M974 := BF.go hB948 hB975
                      have kp989 : mI M974 24 = mI M 24 := kp_go kp949 kp977
                      have kp990 : mI M974 25 = mI M 25 := kp_go kp950 kp978
                      have kp991 : mI M974 26 = mI M 26 := kp_go kp951 kp979
                      have kp992 : mI M974 27 = mI M 27 := kp_go kp952 kp980
                      have kp993 : mI M974 28 = mI M 28 := kp_go kp953 kp981
                      refine vc_if_eq dX4_readOne_302 (fun h994 => ?_) (fun h994 => ?_)
                      · refine vc_iconst dX4_readOne_309 rfl ?_
                        refine vc_zret dX4_readOne_310 rfl (by first | decide | omega) (Nat.le_of_ble_eq_true rfl) (Nat.le_of_ble_eq_true rfl) ?_
                        have hb995 := TR.bad h987 (by omega)
                        exact ⟨_, rfl, hB988, kp989, kp990, kp991, kp992, kp993, by omega, by omega, by omega, by omega, by omega, fun h => absurd h (by omega), Or.inr ⟨by omega, by omega, by rw [hb995.2.1, hb995.2.2]; exact kt960 _ (t_b40 hE958 (by omega))⟩⟩
                      · have e996 := TR.ok h987 (by omega)
                        have he997 := e996.1
                        have rg998 := RS.rg hR957
                        have kt999 : ∀ o, Rn (tk g n) (nx g n) w (dm sk) true (nx g n q955) o → Rn (tk g n) (nx g n) w sk false p o := fun o r => kt960 o (t_shut (by omega) r)
                        have em1000 : EM M M974 c962 := EM.suf em972 (by omega) kp976
                        refine vc_iconst dX4_readOne_305 rfl ?_
                        refine vc_goto dX4_readOne_306 ?_
                        refine vc_zret dX4_readOne_310 rfl (by first | decide | omega) (Nat.le_of_ble_eq_true rfl) (Nat.le_of_ble_eq_true rfl) ?_
                        exact ⟨_, rfl, hB988, kp989, kp990, kp991, kp992, kp993, by omega, by omega, by omega, by omega, by omega, fun _ => ⟨nx g n q955, c962, ⟨e996.2, em1000, by omega, H1.up w966 (by omega), w967⟩, par_fw (by omega) rfl f968 (by omega)⟩, Or.inl ⟨by omega, nx g n q955, by omega, e996.2, trivial, kt999⟩⟩
                · refine vc_aload_n dX4_readOne_185 rfl ?_
                  refine vc_iconst dX4_readOne_186 rfl ?_
                  refine vc_cVI dX4_readOne_187 (sfX4_failedF (M := M) hB0.1  g n p hR 3 ) rfl okX4_failed viX4_failed lkX4_122 (s_22 hB0.1.1) cl_4 rfl (by show 0 < 11 + 3 * (nf + 1); omega) ⟨rfl, rfl⟩ (Nat.le_of_ble_eq_true rfl) (Nat.le_of_ble_eq_true rfl) (Nat.le_of_ble_eq_true rfl) ?_
                  rintro x1001 M1002 ⟨hB1003, kp1004, kp1005, kp1006, kp1007, kp1008, kp1009, h1010, h1011, h1012, h1013, h1014, h1015, h1016⟩
                  have hB1017 : BF fQ M M1002 := BF.go hB0 hB1003
                  have kp1018 : mI M1002 24 = mI M 24 := kp_go rfl kp1005
                  have kp1019 : mI M1002 25 = mI M 25 := kp_go rfl kp1006
                  have kp1020 : mI M1002 26 = mI M 26 := kp_go rfl kp1007
                  have kp1021 : mI M1002 27 = mI M 27 := kp_go rfl kp1008
                  have kp1022 : mI M1002 28 = mI M 28 := kp_go rfl kp1009
                  have kp1023 : mI M1002 23 = mI M 23 := kp_go rfl kp1004
                  refine vc_zret dX4_readOne_190 rfl (by first | decide | omega) (Nat.le_of_ble_eq_true rfl) (Nat.le_of_ble_eq_true rfl) ?_
                  exact ⟨_, rfl, hB1017, kp1018, kp1019, kp1020, kp1021, kp1022, by omega, by omega, by omega, by omega, by omega, fun h => absurd h (by omega), Or.inr ⟨by omega, by omega, by rw [h1015, h1016]; first | exact r_two3 (by omega) (by omega) | exact r_par3 (by omega) (by omega) | exact r_neg3 (by omega) (by omega)⟩⟩
              · refine vc_aload_n dX4_readOne_173 rfl ?_
                refine vc_iconst dX4_readOne_174 rfl ?_
                refine vc_cVI dX4_readOne_175 (sfX4_failedF (M := M) hB0.1  g n p hR 1 ) rfl okX4_failed viX4_failed lkX4_122 (s_22 hB0.1.1) cl_4 rfl (by show 0 < 11 + 3 * (nf + 1); omega) ⟨rfl, rfl⟩ (Nat.le_of_ble_eq_true rfl) (Nat.le_of_ble_eq_true rfl) (Nat.le_of_ble_eq_true rfl) ?_
                rintro x1024 M1025 ⟨hB1026, kp1027, kp1028, kp1029, kp1030, kp1031, kp1032, h1033, h1034, h1035, h1036, h1037, h1038, h1039⟩
                have hB1040 : BF fQ M M1025 := BF.go hB0 hB1026
                have kp1041 : mI M1025 24 = mI M 24 := kp_go rfl kp1028
                have kp1042 : mI M1025 25 = mI M 25 := kp_go rfl kp1029
                have kp1043 : mI M1025 26 = mI M 26 := kp_go rfl kp1030
                have kp1044 : mI M1025 27 = mI M 27 := kp_go rfl kp1031
                have kp1045 : mI M1025 28 = mI M 28 := kp_go rfl kp1032
                have kp1046 : mI M1025 23 = mI M 23 := kp_go rfl kp1027
                refine vc_zret dX4_readOne_178 rfl (by first | decide | omega) (Nat.le_of_ble_eq_true rfl) (Nat.le_of_ble_eq_true rfl) ?_
                exact ⟨_, rfl, hB1040, kp1041, kp1042, kp1043, kp1044, kp1045, by omega, by omega, by omega, by omega, by omega, fun h => absurd h (by omega), Or.inr ⟨by omega, by omega, by rw [h1038, h1039]; exact r_no (by omega) (by omega) (by omega) (by omega) (by omega)⟩⟩
          · refine vc_iconst dX4_readOne_145 rfl ?_
            refine vc_goto dX4_readOne_146 ?_
            refine vc_istore_n dX4_readOne_150 (Nat.le_of_ble_eq_true rfl) rfl (show _ = [some (aR 22), some (aI d), some (aI 1), none] from rfl) ?_
            refine vc_iload_n dX4_readOne_151 rfl ?_
            refine vc_if_ne dX4_readOne_152 (fun h1047 => ?_) (fun h1047 => by exfalso; omega)
            refine vc_iload_n dX4_readOne_179 rfl ?_
            refine vc_bipush dX4_readOne_180 rfl ?_
            refine vc_icmp_lt dX4_readOne_182 (fun h1048 => ?_) (fun h1048 => ?_)
            · refine vc_aload_n dX4_readOne_191 rfl ?_
              refine vc_getI dX4_readOne_192 flX4_119 (s_22 hB0.1.1) rfl ?_
              refine vc_nameI (fun x1049 ex1049 => ?_)
              refine vc_istore_n dX4_readOne_195 (Nat.le_of_ble_eq_true rfl) rfl (show _ = [some (aR 22), some (aI d), some (aI 1), some (aI x1049)] from rfl) ?_
              refine vc_aload_n dX4_readOne_196 rfl ?_
              refine vc_cVI dX4_readOne_197 (sfX4_takeTokenF (M := M) hB0.1  g n p hR (by omega)) rfl okX4_takeToken viX4_takeToken lkX4_65 (s_22 hB0.1.1) cl_4 rfl (by show 0 < 11 + 3 * (nf + 1); omega) ⟨rfl, rfl⟩ (Nat.le_of_ble_eq_true rfl) (Nat.le_of_ble_eq_true rfl) (Nat.le_of_ble_eq_true rfl) ?_
              rintro x1050 M1051 ⟨hB1052, kp1053, kp1054, kp1055, kp1056, kp1057, kp1058, h1059, h1060, h1061, h1062, h1063, h1064⟩
              have hB1065 : BF fQ M M1051 := BF.go hB0 hB1052
              have kp1066 : mI M1051 24 = mI M 24 := kp_go rfl kp1054
              have kp1067 : mI M1051 25 = mI M 25 := kp_go rfl kp1055
              have kp1068 : mI M1051 26 = mI M 26 := kp_go rfl kp1056
              have kp1069 : mI M1051 27 = mI M 27 := kp_go rfl kp1057
              have kp1070 : mI M1051 28 = mI M 28 := kp_go rfl kp1058
              have kp1071 : mI M1051 23 = mI M 23 := kp_go rfl kp1053
              have em1072 : EM M M1051 ([]) := EM.suf em0 (by omega) kp1053
              refine vc_pop dX4_readOne_200 rfl ?_
              refine vc_iload_n dX4_readOne_201 rfl ?_
              refine vc_if_eq dX4_readOne_202 (fun h1073 => by exfalso; omega) (fun h1073 => ?_)
              refine vc_aload_n dX4_readOne_205 rfl ?_
              refine vc_bipush dX4_readOne_206 rfl ?_
              refine vc_cVI dX4_readOne_208 (sfX4_readWordF (M := M1051) hB1065.1  g n (nx g n p) h1064 19 (by omega) (by omega)) rfl okX4_readWord viX4_readWord lkX4_151 (s_22 hB1065.1.1) cl_4 rfl (by show 1 < 11 + 3 * (nf + 1); omega) ⟨rfl, rfl⟩ (Nat.le_of_ble_eq_true rfl) (Nat.le_of_ble_eq_true rfl) (Nat.le_of_ble_eq_true rfl) ?_
              rintro x1074 M1075 ⟨hB1076, kp1077, kp1078, kp1079, kp1080, kp1081, kp1082, h1083, h1084, h1085, h1086, h1087, h1088⟩
              have hB1089 : BF fQ M M1075 := BF.go hB1065 hB1076
              have kp1090 : mI M1075 24 = mI M 24 := kp_go kp1066 kp1078
              have kp1091 : mI M1075 25 = mI M 25 := kp_go kp1067 kp1079
              have kp1092 : mI M1075 26 = mI M 26 := kp_go kp1068 kp1080
              have kp1093 : mI M1075 27 = mI M 27 := kp_go kp1069 kp1081
              have kp1094 : mI M1075 28 = mI M 28 := kp_go kp1070 kp1082
              have kp1095 : mI M1075 23 = mI M 23 := kp_go kp1071 kp1077
              refine vc_if_eq dX4_readOne_211 (fun h1096 => ?_) (fun h1096 => ?_)
              · refine vc_iconst dX4_readOne_278 rfl ?_
                refine vc_zret dX4_readOne_279 rfl (by first | decide | omega) (Nat.le_of_ble_eq_true rfl) (Nat.le_of_ble_eq_true rfl) ?_
                have hb1097 := TR.bad h1088 (by omega)
                exact ⟨_, rfl, hB1089, kp1090, kp1091, kp1092, kp1093, kp1094, by omega, by omega, by omega, by omega, by omega, fun h => absurd h (by omega), Or.inr ⟨by omega, by omega, by rw [hb1097.2.1, hb1097.2.2]; exact r_two1 (by omega) (by omega) (by omega)⟩⟩
              · have e1098 := TR.ok h1088 (by omega)
                have he1099 := e1098.1
                have rg1100 := RS.rg h1064
                have kt1101 : ∀ o, Rn (tk g n) (nx g n) w (41 :: sk) false (nx g n (nx g n p)) o → Rn (tk g n) (nx g n) w sk false p o := fun o r => r_two (by omega) (by omega) (by omega) r
                have em1102 : EM M M1075 ([]) := EM.suf em1072 (by omega) kp1077
                refine vc_aload_n dX4_readOne_214 rfl ?_
                refine vc_iload_n dX4_readOne_215 rfl ?_
                refine vc_iconst dX4_readOne_216 rfl ?_
                refine vc_iaddE dX4_readOne_217 (by omega) (by omega) ?_
                refine vc_cVI dX4_readOne_218 (hs (M := M1075) hB1089.1  (d + 1) (by omega) (by omega) g n (nx g n (nx g n p)) e1098.2 w (41 :: sk) (by first | (rw [List.length_cons]; omega) | omega) rfl (by rw [show mI M1075 22 14 = mI M 22 14 by omega]; exact hw) (by omega) (by omega)) rfl (okX4_readSum (13 + 3 * nf)) (viX4_readSum (13 + 3 * nf)) (lkX4_132 (13 + 3 * nf)) (s_22 hB1089.1.1) cl_4 rfl (by show (13 + 3 * nf) < 11 + 3 * (nf + 1); omega) ⟨rfl, rfl⟩ (Nat.le_of_ble_eq_true rfl) (Nat.le_of_ble_eq_true rfl) (Nat.le_of_ble_eq_true rfl) ?_
                rintro x1103 M1104 ⟨hB1105, kp1106, kp1107, kp1108, kp1109, kp1110, h1111, h1112, h1113, h1114, h1115, h1116, h1117⟩
                have hB1118 : BF fQ M M1104 := BF.go hB1089 hB1105
                have kp1119 : mI M1104 24 = mI M 24 := kp_go kp1090 kp1106
                have kp1120 : mI M1104 25 = mI M 25 := kp_go kp1091 kp1107
                have kp1121 : mI M1104 26 = mI M 26 := kp_go kp1092 kp1108
                have kp1122 : mI M1104 27 = mI M 27 := kp_go kp1093 kp1109
                have kp1123 : mI M1104 28 = mI M 28 := kp_go kp1094 kp1110
                refine vc_if_eq dX4_readOne_221 (fun h1124 => ?_) (fun h1124 => ?_)
                · refine vc_iconst dX4_readOne_278 rfl ?_
                  refine vc_zret dX4_readOne_279 rfl (by first | decide | omega) (Nat.le_of_ble_eq_true rfl) (Nat.le_of_ble_eq_true rfl) ?_
                  exact ⟨_, rfl, hB1118, kp1119, kp1120, kp1121, kp1122, kp1123, by omega, by omega, by omega, by omega, by omega, fun h => absurd h (by omega), Or.inr ⟨by omega, (LR.bad h1117 (by omega)).1, kt1101 _ (LR.bad h1117 (by omega)).2⟩⟩
                · obtain ⟨q1125, hl1126, hR1127, hE1128, hk1129⟩ := LR.ok h1117 (by omega)
                  unfold EOp at hE1128
                  have kt1130 : ∀ o, Rn (tk g n) (nx g n) w (41 :: sk) true q1125 o → Rn (tk g n) (nx g n) w sk false p o := fun o r => kt1101 o (hk1129 o r)
                  obtain ⟨q1131, c1132, ⟨w1133, w1134, w1135, w1136, w1137⟩, E1139, f1138⟩ := h1116 (by omega)
                  have e1140 := RS.uq w1133 hR1127
                  subst e1140
                  have rg1141 := RS.rg hR1127
                  unfold EOp at E1139
                  have em1142 : EM M M1104 (c1132) := EM.app (by omega) em1102 w1134
                  refine vc_aload_n dX4_readOne_224 rfl ?_
                  refine vc_bipush dX4_readOne_225 rfl ?_
                  refine vc_cVI dX4_readOne_227 (sfX4_readSignF (M := M1104) hB1118.1  g n q1125 hR1127 44 (by omega) (by omega)) rfl okX4_readSign viX4_readSign lkX4_141 (s_22 hB1118.1.1) cl_4 rfl (by show 1 < 11 + 3 * (nf + 1); omega) ⟨rfl, rfl⟩ (Nat.le_of_ble_eq_true rfl) (Nat.le_of_ble_eq_true rfl) (Nat.le_of_ble_eq_true rfl) ?_
                  rintro x1143 M1144 ⟨hB1145, kp1146, kp1147, kp1148, kp1149, kp1150, kp1151, h1152, h1153, h1154, h1155, h1156, h1157⟩
                  have hB1158 : BF fQ M M1144 := BF.go hB1118 hB1145
                  have kp1159 : mI M1144 24 = mI M 24 := kp_go kp1119 kp1147
                  have kp1160 : mI M1144 25 = mI M 25 := kp_go kp1120 kp1148
                  have kp1161 : mI M1144 26 = mI M 26 := kp_go kp1121 kp1149
                  have kp1162 : mI M1144 27 = mI M 27 := kp_go kp1122 kp1150
                  have kp1163 : mI M1144 28 = mI M 28 := kp_go kp1123 kp1151
                  refine vc_if_eq dX4_readOne_230 (fun h1164 => ?_) (fun h1164 => ?_)
                  · refine vc_iconst dX4_readOne_278 rfl ?_
                    refine vc_zret dX4_readOne_279 rfl (by first | decide | omega) (Nat.le_of_ble_eq_true rfl) (Nat.le_of_ble_eq_true rfl) ?_
                    have hb1165 := TR.bad h1157 (by omega)
                    exact ⟨_, rfl, hB1158, kp1159, kp1160, kp1161, kp1162, kp1163, by omega, by omega, by omega, by omega, by omega, fun h => absurd h (by omega), Or.inr ⟨by omega, by omega, by rw [hb1165.2.1, hb1165.2.2]; exact kt1130 _ (t_b41 hE1128 (by omega))⟩⟩
                  · have e1166 := TR.ok h1157 (by omega)
                    have he1167 := e1166.1
                    have rg1168 := RS.rg hR1127
                    have kt1169 : ∀ o, Rn (tk g n) (nx g n) w (42 :: sk) false (nx g n q1125) o → Rn (tk g n) (nx g n) w sk false p o := fun o r => kt1130 o (t_com (by omega) r)
                    have em1170 : EM M M1144 c1132 := EM.suf em1142 (by omega) kp1146
                    refine vc_aload_n dX4_readOne_233 rfl ?_
                    refine vc_iload_n dX4_readOne_234 rfl ?_
                    refine vc_iconst dX4_readOne_235 rfl ?_
                    refine vc_iaddE dX4_readOne_236 (by omega) (by omega) ?_
                    refine vc_cVI dX4_readOne_237 (hs (M := M1144) hB1158.1  (d + 1) (by omega) (by omega) g n (nx g n q1125) e1166.2 w (42 :: sk) (by first | (rw [List.length_cons]; omega) | omega) rfl (by rw [show mI M1144 22 14 = mI M 22 14 by omega]; exact hw) (by omega) (by omega)) rfl (okX4_readSum (13 + 3 * nf)) (viX4_readSum (13 + 3 * nf)) (lkX4_132 (13 + 3 * nf)) (s_22 hB1158.1.1) cl_4 rfl (by show (13 + 3 * nf) < 11 + 3 * (nf + 1); omega) ⟨rfl, rfl⟩ (Nat.le_of_ble_eq_true rfl) (Nat.le_of_ble_eq_true rfl) (Nat.le_of_ble_eq_true rfl) ?_
                    rintro x1171 M1172 ⟨hB1173, kp1174, kp1175, kp1176, kp1177, kp1178, h1179, h1180, h1181, h1182, h1183, h1184, h1185⟩
                    have hB1186 : BF fQ M M1172 := BF.go hB1158 hB1173
                    have kp1187 : mI M1172 24 = mI M 24 := kp_go kp1159 kp1174
                    have kp1188 : mI M1172 25 = mI M 25 := kp_go kp1160 kp1175
                    have kp1189 : mI M1172 26 = mI M 26 := kp_go kp1161 kp1176
                    have kp1190 : mI M1172 27 = mI M 27 := kp_go kp1162 kp1177
                    have kp1191 : mI M1172 28 = mI M 28 := kp_go kp1163 kp1178
                    refine vc_if_eq dX4_readOne_240 (fun h1192 => ?_) (fun h1192 => ?_)
                    · refine vc_iconst dX4_readOne_278 rfl ?_
                      refine vc_zret dX4_readOne_279 rfl (by first | decide | omega) (Nat.le_of_ble_eq_true rfl) (Nat.le_of_ble_eq_true rfl) ?_
                      exact ⟨_, rfl, hB1186, kp1187, kp1188, kp1189, kp1190, kp1191, by omega, by omega, by omega, by omega, by omega, fun h => absurd h (by omega), Or.inr ⟨by omega, (LR.bad h1185 (by omega)).1, kt1169 _ (LR.bad h1185 (by omega)).2⟩⟩
                    · obtain ⟨q1193, hl1194, hR1195, hE1196, hk1197⟩ := LR.ok h1185 (by omega)
                      unfold EOp at hE1196
                      have kt1198 : ∀ o, Rn (tk g n) (nx g n) w (42 :: sk) true q1193 o → Rn (tk g n) (nx g n) w sk false p o := fun o r => kt1169 o (hk1197 o r)
                      obtain ⟨q1199, c1200, ⟨w1201, w1202, w1203, w1204, w1205⟩, E1207, f1206⟩ := h1184 (by omega)
                      have e1208 := RS.uq w1201 hR1195
                      subst e1208
                      have rg1209 := RS.rg hR1195
                      unfold EOp at E1207
                      have em1210 : EM M M1172 (c1132 ++ c1200) := EM.app (by omega) em1170 w1202
                      refine vc_aload_n dX4_readOne_243 rfl ?_
                      refine vc_bipush dX4_readOne_244 rfl ?_
                      refine vc_cVI dX4_readOne_246 (sfX4_readWordF (M := M1172) hB1186.1  g n q1193 hR1195 20 (by omega) (by omega)) rfl okX4_readWord viX4_readWord lkX4_151 (s_22 hB1186.1.1) cl_4 rfl (by show 1 < 11 + 3 * (nf + 1); omega) ⟨rfl, rfl⟩ (Nat.le_of_ble_eq_true rfl) (Nat.le_of_ble_eq_true rfl) (Nat.le_of_ble_eq_true rfl) ?_
                      rintro x1211 M1212 ⟨hB1213, kp1214, kp1215, kp1216, kp1217, kp1218, kp1219, h1220, h1221, h1222, h1223, h1224, h1225⟩
                      have hB1226 : BF fQ M M1212 := BF.go hB1186 hB1213
                      have kp1227 : mI M1212 24 = mI M 24 := kp_go kp1187 kp1215
                      have kp1228 : mI M1212 25 = mI M 25 := kp_go kp1188 kp1216
                      have kp1229 : mI M1212 26 = mI M 26 := kp_go kp1189 kp1217
                      have kp1230 : mI M1212 27 = mI M 27 := kp_go kp1190 kp1218
                      have kp1231 : mI M1212 28 = mI M 28 := kp_go kp1191 kp1219
                      refine vc_if_eq dX4_readOne_249 (fun h1232 => ?_) (fun h1232 => ?_)
                      · refine vc_iconst dX4_readOne_278 rfl ?_
                        refine vc_zret dX4_readOne_279 rfl (by first | decide | omega) (Nat.le_of_ble_eq_true rfl) (Nat.le_of_ble_eq_true rfl) ?_
                        have hb1233 := TR.bad h1225 (by omega)
                        exact ⟨_, rfl, hB1226, kp1227, kp1228, kp1229, kp1230, kp1231, by omega, by omega, by omega, by omega, by omega, fun h => absurd h (by omega), Or.inr ⟨by omega, by omega, by rw [hb1233.2.1, hb1233.2.2]; exact kt1198 _ (t_b42 hE1196 (by omega))⟩⟩
                      · have e1234 := TR.ok h1225 (by omega)
                        have he1235 := e1234.1
                        have rg1236 := RS.rg hR1195
                        have kt1237 : ∀ o, Rn (tk g n) (nx g n) w (dm sk) true (nx g n q1193) o → Rn (tk g n) (nx g n) w sk false p o := fun o r => kt1198 o (t_end (by omega) r)
                        have em1238 : EM M M1212 (c1132 ++ c1200) := EM.suf em1210 (by omega) kp1214
                        refine vc_aload_n dX4_readOne_252 rfl ?_
                        refine vc_iload_n dX4_readOne_253 rfl ?_
                        refine vc_bipush dX4_readOne_254 rfl ?_
                        refine vc_icmp_ne dX4_readOne_256 (fun h1239 => ?_) (fun h1239 => by exfalso; omega)
                        refine vc_sipush dX4_readOne_265 rfl ?_
                        refine vc_cVI dX4_readOne_268 (sfX4_emitF (M := M1212) hB1226.1  g n (nx g n q1193) e1234.2 20005 (by omega)) rfl okX4_emit viX4_emit lkX4_176 (s_22 hB1226.1.1) cl_4 rfl (by show 0 < 11 + 3 * (nf + 1); omega) ⟨rfl, rfl⟩ (Nat.le_of_ble_eq_true rfl) (Nat.le_of_ble_eq_true rfl) (Nat.le_of_ble_eq_true rfl) ?_
                        rintro x1240 M1241 ⟨hB1242, kp1243, kp1244, kp1245, kp1246, kp1247, h1248, h1249, h1250, h1251, h1252, h1253, h1254⟩
                        have hB1255 : BF fQ M M1241 := BF.go hB1226 hB1242
                        have kp1256 : mI M1241 24 = mI M 24 := kp_go kp1227 kp1243
                        have kp1257 : mI M1241 25 = mI M 25 := kp_go kp1228 kp1244
                        have kp1258 : mI M1241 26 = mI M 26 := kp_go kp1229 kp1245
                        have kp1259 : mI M1241 27 = mI M 27 := kp_go kp1230 kp1246
                        have kp1260 : mI M1241 28 = mI M 28 := kp_go kp1231 kp1247
                        have em1261 : EM M M1241 ((c1132 ++ c1200) ++ [((8 : Int), (0 : Int))]) := EM.app (by omega) em1238 (h1253 ((8 : Int), (0 : Int)) (by rfl))
                        refine vc_if_eq dX4_readOne_271 (fun h1262 => by exfalso; omega) (fun h1262 => ?_)
                        refine vc_iconst dX4_readOne_274 rfl ?_
                        refine vc_goto dX4_readOne_275 ?_
                        refine vc_zret dX4_readOne_279 rfl (by first | decide | omega) (Nat.le_of_ble_eq_true rfl) (Nat.le_of_ble_eq_true rfl) ?_
                        rw [List.append_assoc] at em1261
                        exact ⟨_, rfl, hB1255, kp1256, kp1257, kp1258, kp1259, kp1260, by omega, by omega, by omega, by omega, by omega, fun _ => ⟨nx g n q1193, c1132 ++ (c1200 ++ [(8, 0)]), ⟨h1254, em1261, by omega, H1.two (H1.up w1136 (by omega)) w1204 (by decide) 0 (by omega), rgO.app w1137 (rgO.app w1205 (rgO.one (by decide)))⟩, two_fw (o := 43) (Or.inr ⟨by omega, rfl⟩) rfl rfl f1138 (by omega) rfl f1206 (by omega)⟩, Or.inl ⟨by omega, nx g n q1193, by omega, h1254, trivial, kt1237⟩⟩
            · refine vc_aload_n dX4_readOne_185 rfl ?_
              refine vc_iconst dX4_readOne_186 rfl ?_
              refine vc_cVI dX4_readOne_187 (sfX4_failedF (M := M) hB0.1  g n p hR 3 ) rfl okX4_failed viX4_failed lkX4_122 (s_22 hB0.1.1) cl_4 rfl (by show 0 < 11 + 3 * (nf + 1); omega) ⟨rfl, rfl⟩ (Nat.le_of_ble_eq_true rfl) (Nat.le_of_ble_eq_true rfl) (Nat.le_of_ble_eq_true rfl) ?_
              rintro x1263 M1264 ⟨hB1265, kp1266, kp1267, kp1268, kp1269, kp1270, kp1271, h1272, h1273, h1274, h1275, h1276, h1277, h1278⟩
              have hB1279 : BF fQ M M1264 := BF.go hB0 hB1265
              have kp1280 : mI M1264 24 = mI M 24 := kp_go rfl kp1267
              have kp1281 : mI M1264 25 = mI M 25 := kp_go rfl kp1268
              have kp1282 : mI M1264 26 = mI M 26 := kp_go rfl kp1269
              have kp1283 : mI M1264 27 = mI M 27 := kp_go rfl kp1270
              have kp1284 : mI M1264 28 = mI M 28 := kp_go rfl kp1271
              have kp1285 : mI M1264 23 = mI M 23 := kp_go rfl kp1266
              refine vc_zret dX4_readOne_190 rfl (by first | decide | omega) (Nat.le_of_ble_eq_true rfl) (Nat.le_of_ble_eq_true rfl) ?_
              exact ⟨_, rfl, hB1279, kp1280, kp1281, kp1282, kp1283, kp1284, by omega, by omega, by omega, by omega, by omega, fun h => absurd h (by omega), Or.inr ⟨by omega, by omega, by rw [h1277, h1278]; first | exact r_two3 (by omega) (by omega) | exact r_par3 (by omega) (by omega) | exact r_neg3 (by omega) (by omega)⟩⟩
    · refine vc_aload_n dX4_readOne_58 rfl ?_
      refine vc_getI dX4_readOne_59 flX4_119 (s_22 hB0.1.1) rfl ?_
      refine vc_bipush dX4_readOne_62 rfl ?_
      refine vc_icmp_lt dX4_readOne_64 (fun h1286 => ?_) (fun h1286 => ?_)
      · refine vc_aload_n dX4_readOne_119 rfl ?_
        refine vc_getI dX4_readOne_120 flX4_69 (s_22 hB0.1.1) rfl ?_
        refine vc_iconst dX4_readOne_123 rfl ?_
        refine vc_icmp_ne dX4_readOne_124 (fun h1287 => by exfalso; omega) (fun h1287 => ?_)
        refine vc_aload_n dX4_readOne_127 rfl ?_
        refine vc_getI dX4_readOne_128 flX4_119 (s_22 hB0.1.1) rfl ?_
        refine vc_bipush dX4_readOne_131 rfl ?_
        refine vc_icmp_eq dX4_readOne_133 (fun h1288 => ?_) (fun h1288 => ?_)
        · refine vc_iconst dX4_readOne_145 rfl ?_
          refine vc_goto dX4_readOne_146 ?_
          refine vc_istore_n dX4_readOne_150 (Nat.le_of_ble_eq_true rfl) rfl (show _ = [some (aR 22), some (aI d), some (aI 1), none] from rfl) ?_
          refine vc_iload_n dX4_readOne_151 rfl ?_
          refine vc_if_ne dX4_readOne_152 (fun h1289 => ?_) (fun h1289 => by exfalso; omega)
          refine vc_iload_n dX4_readOne_179 rfl ?_
          refine vc_bipush dX4_readOne_180 rfl ?_
          refine vc_icmp_lt dX4_readOne_182 (fun h1290 => ?_) (fun h1290 => ?_)
          · refine vc_aload_n dX4_readOne_191 rfl ?_
            refine vc_getI dX4_readOne_192 flX4_119 (s_22 hB0.1.1) rfl ?_
            refine vc_nameI (fun x1291 ex1291 => ?_)
            refine vc_istore_n dX4_readOne_195 (Nat.le_of_ble_eq_true rfl) rfl (show _ = [some (aR 22), some (aI d), some (aI 1), some (aI x1291)] from rfl) ?_
            refine vc_aload_n dX4_readOne_196 rfl ?_
            refine vc_cVI dX4_readOne_197 (sfX4_takeTokenF (M := M) hB0.1  g n p hR (by omega)) rfl okX4_takeToken viX4_takeToken lkX4_65 (s_22 hB0.1.1) cl_4 rfl (by show 0 < 11 + 3 * (nf + 1); omega) ⟨rfl, rfl⟩ (Nat.le_of_ble_eq_true rfl) (Nat.le_of_ble_eq_true rfl) (Nat.le_of_ble_eq_true rfl) ?_
            rintro x1292 M1293 ⟨hB1294, kp1295, kp1296, kp1297, kp1298, kp1299, kp1300, h1301, h1302, h1303, h1304, h1305, h1306⟩
            have hB1307 : BF fQ M M1293 := BF.go hB0 hB1294
            have kp1308 : mI M1293 24 = mI M 24 := kp_go rfl kp1296
            have kp1309 : mI M1293 25 = mI M 25 := kp_go rfl kp1297
            have kp1310 : mI M1293 26 = mI M 26 := kp_go rfl kp1298
            have kp1311 : mI M1293 27 = mI M 27 := kp_go rfl kp1299
            have kp1312 : mI M1293 28 = mI M 28 := kp_go rfl kp1300
            have kp1313 : mI M1293 23 = mI M 23 := kp_go rfl kp1295
            have em1314 : EM M M1293 ([]) := EM.suf em0 (by omega) kp1295
            refine vc_pop dX4_readOne_200 rfl ?_
            refine vc_iload_n dX4_readOne_201 rfl ?_
            refine vc_if_eq dX4_readOne_202 (fun h1315 => by exfalso; omega) (fun h1315 => ?_)
            refine vc_aload_n dX4_readOne_205 rfl ?_
            refine vc_bipush dX4_readOne_206 rfl ?_
            refine vc_cVI dX4_readOne_208 (sfX4_readWordF (M := M1293) hB1307.1  g n (nx g n p) h1306 19 (by omega) (by omega)) rfl okX4_readWord viX4_readWord lkX4_151 (s_22 hB1307.1.1) cl_4 rfl (by show 1 < 11 + 3 * (nf + 1); omega) ⟨rfl, rfl⟩ (Nat.le_of_ble_eq_true rfl) (Nat.le_of_ble_eq_true rfl) (Nat.le_of_ble_eq_true rfl) ?_
            rintro x1316 M1317 ⟨hB1318, kp1319, kp1320, kp1321, kp1322, kp1323, kp1324, h1325, h1326, h1327, h1328, h1329, h1330⟩
            have hB1331 : BF fQ M M1317 := BF.go hB1307 hB1318
            have kp1332 : mI M1317 24 = mI M 24 := kp_go kp1308 kp1320
            have kp1333 : mI M1317 25 = mI M 25 := kp_go kp1309 kp1321
            have kp1334 : mI M1317 26 = mI M 26 := kp_go kp1310 kp1322
            have kp1335 : mI M1317 27 = mI M 27 := kp_go kp1311 kp1323
            have kp1336 : mI M1317 28 = mI M 28 := kp_go kp1312 kp1324
            have kp1337 : mI M1317 23 = mI M 23 := kp_go kp1313 kp1319
            refine vc_if_eq dX4_readOne_211 (fun h1338 => ?_) (fun h1338 => ?_)
            · refine vc_iconst dX4_readOne_278 rfl ?_
              refine vc_zret dX4_readOne_279 rfl (by first | decide | omega) (Nat.le_of_ble_eq_true rfl) (Nat.le_of_ble_eq_true rfl) ?_
              have hb1339 := TR.bad h1330 (by omega)
              exact ⟨_, rfl, hB1331, kp1332, kp1333, kp1334, kp1335, kp1336, by omega, by omega, by omega, by omega, by omega, fun h => absurd h (by omega), Or.inr ⟨by omega, by omega, by rw [hb1339.2.1, hb1339.2.2]; exact r_two1 (by omega) (by omega) (by omega)⟩⟩
            · have e1340 := TR.ok h1330 (by omega)
              have he1341 := e1340.1
              have rg1342 := RS.rg h1306
              have kt1343 : ∀ o, Rn (tk g n) (nx g n) w (41 :: sk) false (nx g n (nx g n p)) o → Rn (tk g n) (nx g n) w sk false p o := fun o r => r_two (by omega) (by omega) (by omega) r
              have em1344 : EM M M1317 ([]) := EM.suf em1314 (by omega) kp1319
              refine vc_aload_n dX4_readOne_214 rfl ?_
              refine vc_iload_n dX4_readOne_215 rfl ?_
              refine vc_iconst dX4_readOne_216 rfl ?_
              refine vc_iaddE dX4_readOne_217 (by omega) (by omega) ?_
              refine vc_cVI dX4_readOne_218 (hs (M := M1317) hB1331.1  (d + 1) (by omega) (by omega) g n (nx g n (nx g n p)) e1340.2 w (41 :: sk) (by first | (rw [List.length_cons]; omega) | omega) rfl (by rw [show mI M1317 22 14 = mI M 22 14 by omega]; exact hw) (by omega) (by omega)) rfl (okX4_readSum (13 + 3 * nf)) (viX4_readSum (13 + 3 * nf)) (lkX4_132 (13 + 3 * nf)) (s_22 hB1331.1.1) cl_4 rfl (by show (13 + 3 * nf) < 11 + 3 * (nf + 1); omega) ⟨rfl, rfl⟩ (Nat.le_of_ble_eq_true rfl) (Nat.le_of_ble_eq_true rfl) (Nat.le_of_ble_eq_true rfl) ?_
              rintro x1345 M1346 ⟨hB1347, kp1348, kp1349, kp1350, kp1351, kp1352, h1353, h1354, h1355, h1356, h1357, h1358, h1359⟩
              have hB1360 : BF fQ M M1346 := BF.go hB1331 hB1347
              have kp1361 : mI M1346 24 = mI M 24 := kp_go kp1332 kp1348
              have kp1362 : mI M1346 25 = mI M 25 := kp_go kp1333 kp1349
              have kp1363 : mI M1346 26 = mI M 26 := kp_go kp1334 kp1350
              have kp1364 : mI M1346 27 = mI M 27 := kp_go kp1335 kp1351
              have kp1365 : mI M1346 28 = mI M 28 := kp_go kp1336 kp1352
              refine vc_if_eq dX4_readOne_221 (fun h1366 => ?_) (fun h1366 => ?_)
              · refine vc_iconst dX4_readOne_278 rfl ?_
                refine vc_zret dX4_readOne_279 rfl (by first | decide | omega) (Nat.le_of_ble_eq_true rfl) (Nat.le_of_ble_eq_true rfl) ?_
                exact ⟨_, rfl, hB1360, kp1361, kp1362, kp1363, kp1364, kp1365, by omega, by omega, by omega, by omega, by omega, fun h => absurd h (by omega), Or.inr ⟨by omega, (LR.bad h1359 (by omega)).1, kt1343 _ (LR.bad h1359 (by omega)).2⟩⟩
              · obtain ⟨q1367, hl1368, hR1369, hE1370, hk1371⟩ := LR.ok h1359 (by omega)
                unfold EOp at hE1370
                have kt1372 : ∀ o, Rn (tk g n) (nx g n) w (41 :: sk) true q1367 o → Rn (tk g n) (nx g n) w sk false p o := fun o r => kt1343 o (hk1371 o r)
                obtain ⟨q1373, c1374, ⟨w1375, w1376, w1377, w1378, w1379⟩, E1381, f1380⟩ := h1358 (by omega)
                have e1382 := RS.uq w1375 hR1369
                subst e1382
                have rg1383 := RS.rg hR1369
                unfold EOp at E1381
                have em1384 : EM M M1346 (c1374) := EM.app (by omega) em1344 w1376
                refine vc_aload_n dX4_readOne_224 rfl ?_
                refine vc_bipush dX4_readOne_225 rfl ?_
                refine vc_cVI dX4_readOne_227 (sfX4_readSignF (M := M1346) hB1360.1  g n q1367 hR1369 44 (by omega) (by omega)) rfl okX4_readSign viX4_readSign lkX4_141 (s_22 hB1360.1.1) cl_4 rfl (by show 1 < 11 + 3 * (nf + 1); omega) ⟨rfl, rfl⟩ (Nat.le_of_ble_eq_true rfl) (Nat.le_of_ble_eq_true rfl) (Nat.le_of_ble_eq_true rfl) ?_
                rintro x1385 M1386 ⟨hB1387, kp1388, kp1389, kp1390, kp1391, kp1392, kp1393, h1394, h1395, h1396, h1397, h1398, h1399⟩
                have hB1400 : BF fQ M M1386 := BF.go hB1360 hB1387
                have kp1401 : mI M1386 24 = mI M 24 := kp_go kp1361 kp1389
                have kp1402 : mI M1386 25 = mI M 25 := kp_go kp1362 kp1390
                have kp1403 : mI M1386 26 = mI M 26 := kp_go kp1363 kp1391
                have kp1404 : mI M1386 27 = mI M 27 := kp_go kp1364 kp1392
                have kp1405 : mI M1386 28 = mI M 28 := kp_go kp1365 kp1393
                refine vc_if_eq dX4_readOne_230 (fun h1406 => ?_) (fun h1406 => ?_)
                · refine vc_iconst dX4_readOne_278 rfl ?_
                  refine vc_zret dX4_readOne_279 rfl (by first | decide | omega) (Nat.le_of_ble_eq_true rfl) (Nat.le_of_ble_eq_true rfl) ?_
                  have hb1407 := TR.bad h1399 (by omega)
                  exact ⟨_, rfl, hB1400, kp1401, kp1402, kp1403, kp1404, kp1405, by omega, by omega, by omega, by omega, by omega, fun h => absurd h (by omega), Or.inr ⟨by omega, by omega, by rw [hb1407.2.1, hb1407.2.2]; exact kt1372 _ (t_b41 hE1370 (by omega))⟩⟩
                · have e1408 := TR.ok h1399 (by omega)
                  have he1409 := e1408.1
                  have rg1410 := RS.rg hR1369
                  have kt1411 : ∀ o, Rn (tk g n) (nx g n) w (42 :: sk) false (nx g n q1367) o → Rn (tk g n) (nx g n) w sk false p o := fun o r => kt1372 o (t_com (by omega) r)
                  have em1412 : EM M M1386 c1374 := EM.suf em1384 (by omega) kp1388
                  refine vc_aload_n dX4_readOne_233 rfl ?_
                  refine vc_iload_n dX4_readOne_234 rfl ?_
                  refine vc_iconst dX4_readOne_235 rfl ?_
                  refine vc_iaddE dX4_readOne_236 (by omega) (by omega) ?_
                  refine vc_cVI dX4_readOne_237 (hs (M := M1386) hB1400.1  (d + 1) (by omega) (by omega) g n (nx g n q1367) e1408.2 w (42 :: sk) (by first | (rw [List.length_cons]; omega) | omega) rfl (by rw [show mI M1386 22 14 = mI M 22 14 by omega]; exact hw) (by omega) (by omega)) rfl (okX4_readSum (13 + 3 * nf)) (viX4_readSum (13 + 3 * nf)) (lkX4_132 (13 + 3 * nf)) (s_22 hB1400.1.1) cl_4 rfl (by show (13 + 3 * nf) < 11 + 3 * (nf + 1); omega) ⟨rfl, rfl⟩ (Nat.le_of_ble_eq_true rfl) (Nat.le_of_ble_eq_true rfl) (Nat.le_of_ble_eq_true rfl) ?_
                  rintro x1413 M1414 ⟨hB1415, kp1416, kp1417, kp1418, kp1419, kp1420, h1421, h1422, h1423, h1424, h1425, h1426, h1427⟩
                  have hB1428 : BF fQ M M1414 := BF.go hB1400 hB1415
                  have kp1429 : mI M1414 24 = mI M 24 := kp_go kp1401 kp1416
                  have kp1430 : mI M1414 25 = mI M 25 := kp_go kp1402 kp1417
                  have kp1431 : mI M1414 26 = mI M 26 := kp_go kp1403 kp1418
                  have kp1432 : mI M1414 27 = mI M 27 := kp_go kp1404 kp1419
                  have kp1433 : mI M1414 28 = mI M 28 := kp_go kp1405 kp1420
                  refine vc_if_eq dX4_readOne_240 (fun h1434 => ?_) (fun h1434 => ?_)
                  · refine vc_iconst dX4_readOne_278 rfl ?_
                    refine vc_zret dX4_readOne_279 rfl (by first | decide | omega) (Nat.le_of_ble_eq_true rfl) (Nat.le_of_ble_eq_true rfl) ?_
                    exact ⟨_, rfl, hB1428, kp1429, kp1430, kp1431, kp1432, kp1433, by omega, by omega, by omega, by omega, by omega, fun h => absurd h (by omega), Or.inr ⟨by omega, (LR.bad h1427 (by omega)).1, kt1411 _ (LR.bad h1427 (by omega)).2⟩⟩
                  · obtain ⟨q1435, hl1436, hR1437, hE1438, hk1439⟩ := LR.ok h1427 (by omega)
                    unfold EOp at hE1438
                    have kt1440 : ∀ o, Rn (tk g n) (nx g n) w (42 :: sk) true q1435 o → Rn (tk g n) (nx g n) w sk false p o := fun o r => kt1411 o (hk1439 o r)
                    obtain ⟨q1441, c1442, ⟨w1443, w1444, w1445, w1446, w1447⟩, E1449, f1448⟩ := h1426 (by omega)
                    have e1450 := RS.uq w1443 hR1437
                    subst e1450
                    have rg1451 := RS.rg hR1437
                    unfold EOp at E1449
                    have em1452 : EM M M1414 (c1374 ++ c1442) := EM.app (by omega) em1412 w1444
                    refine vc_aload_n dX4_readOne_243 rfl ?_
                    refine vc_bipush dX4_readOne_244 rfl ?_
                    refine vc_cVI dX4_readOne_246 (sfX4_readWordF (M := M1414) hB1428.1  g n q1435 hR1437 20 (by omega) (by omega)) rfl okX4_readWord viX4_readWord lkX4_151 (s_22 hB1428.1.1) cl_4 rfl (by show 1 < 11 + 3 * (nf + 1); omega) ⟨rfl, rfl⟩ (Nat.le_of_ble_eq_true rfl) (Nat.le_of_ble_eq_true rfl) (Nat.le_of_ble_eq_true rfl) ?_
                    rintro x1453 M1454 ⟨hB1455, kp1456, kp1457, kp1458, kp1459, kp1460, kp1461, h1462, h1463, h1464, h1465, h1466, h1467⟩
                    have hB1468 : BF fQ M M1454 := BF.go hB1428 hB1455
                    have kp1469 : mI M1454 24 = mI M 24 := kp_go kp1429 kp1457
                    have kp1470 : mI M1454 25 = mI M 25 := kp_go kp1430 kp1458
                    have kp1471 : mI M1454 26 = mI M 26 := kp_go kp1431 kp1459
                    have kp1472 : mI M1454 27 = mI M 27 := kp_go kp1432 kp1460
                    have kp1473 : mI M1454 28 = mI M 28 := kp_go kp1433 kp1461
                    refine vc_if_eq dX4_readOne_249 (fun h1474 => ?_) (fun h1474 => ?_)
                    · refine vc_iconst dX4_readOne_278 rfl ?_
                      refine vc_zret dX4_readOne_279 rfl (by first | decide | omega) (Nat.le_of_ble_eq_true rfl) (Nat.le_of_ble_eq_true rfl) ?_
                      have hb1475 := TR.bad h1467 (by omega)
                      exact ⟨_, rfl, hB1468, kp1469, kp1470, kp1471, kp1472, kp1473, by omega, by omega, by omega, by omega, by omega, fun h => absurd h (by omega), Or.inr ⟨by omega, by omega, by rw [hb1475.2.1, hb1475.2.2]; exact kt1440 _ (t_b42 hE1438 (by omega))⟩⟩
                    · have e1476 := TR.ok h1467 (by omega)
                      have he1477 := e1476.1
                      have rg1478 := RS.rg hR1437
                      have kt1479 : ∀ o, Rn (tk g n) (nx g n) w (dm sk) true (nx g n q1435) o → Rn (tk g n) (nx g n) w sk false p o := fun o r => kt1440 o (t_end (by omega) r)
                      have em1480 : EM M M1454 (c1374 ++ c1442) := EM.suf em1452 (by omega) kp1456
                      refine vc_aload_n dX4_readOne_252 rfl ?_
                      refine vc_iload_n dX4_readOne_253 rfl ?_
                      refine vc_bipush dX4_readOne_254 rfl ?_
                      refine vc_icmp_ne dX4_readOne_256 (fun h1481 => by exfalso; omega) (fun h1481 => ?_)
                      refine vc_sipush dX4_readOne_259 rfl ?_
                      refine vc_goto dX4_readOne_262 ?_
                      refine vc_cVI dX4_readOne_268 (sfX4_emitF (M := M1454) hB1468.1  g n (nx g n q1435) e1476.2 20004 (by omega)) rfl okX4_emit viX4_emit lkX4_176 (s_22 hB1468.1.1) cl_4 rfl (by show 0 < 11 + 3 * (nf + 1); omega) ⟨rfl, rfl⟩ (Nat.le_of_ble_eq_true rfl) (Nat.le_of_ble_eq_true rfl) (Nat.le_of_ble_eq_true rfl) ?_
                      rintro x1482 M1483 ⟨hB1484, kp1485, kp1486, kp1487, kp1488, kp1489, h1490, h1491, h1492, h1493, h1494, h1495, h1496⟩
                      have hB1497 : BF fQ M M1483 := BF.go hB1468 hB1484
                      have kp1498 : mI M1483 24 = mI M 24 := kp_go kp1469 kp1485
                      have kp1499 : mI M1483 25 = mI M 25 := kp_go kp1470 kp1486
                      have kp1500 : mI M1483 26 = mI M 26 := kp_go kp1471 kp1487
                      have kp1501 : mI M1483 27 = mI M 27 := kp_go kp1472 kp1488
                      have kp1502 : mI M1483 28 = mI M 28 := kp_go kp1473 kp1489
                      have em1503 : EM M M1483 ((c1374 ++ c1442) ++ [((7 : Int), (0 : Int))]) := EM.app (by omega) em1480 (h1495 ((7 : Int), (0 : Int)) (by rfl))
                      refine vc_if_eq dX4_readOne_271 (fun h1504 => by exfalso; omega) (fun h1504 => ?_)
                      refine vc_iconst dX4_readOne_274 rfl ?_
                      refine vc_goto dX4_readOne_275 ?_
                      refine vc_zret dX4_readOne_279 rfl (by first | decide | omega) (Nat.le_of_ble_eq_true rfl) (Nat.le_of_ble_eq_true rfl) ?_
                      rw [List.append_assoc] at em1503
                      exact ⟨_, rfl, hB1497, kp1498, kp1499, kp1500, kp1501, kp1502, by omega, by omega, by omega, by omega, by omega, fun _ => ⟨nx g n q1435, c1374 ++ (c1442 ++ [(7, 0)]), ⟨h1496, em1503, by omega, H1.two (H1.up w1378 (by omega)) w1446 (by decide) 0 (by omega), rgO.app w1379 (rgO.app w1447 (rgO.one (by decide)))⟩, two_fw (o := 41) (Or.inl ⟨by omega, rfl⟩) rfl rfl f1380 (by omega) rfl f1448 (by omega)⟩, Or.inl ⟨by omega, nx g n q1435, by omega, h1496, trivial, kt1479⟩⟩
          · refine vc_aload_n dX4_readOne_185 rfl ?_
            refine vc_iconst dX4_readOne_186 rfl ?_
            refine vc_cVI dX4_readOne_187 (sfX4_failedF (M := M) hB0.1  g n p hR 3 ) rfl okX4_failed viX4_failed lkX4_122 (s_22 hB0.1.1) cl_4 rfl (by show 0 < 11 + 3 * (nf + 1); omega) ⟨rfl, rfl⟩ (Nat.le_of_ble_eq_true rfl) (Nat.le_of_ble_eq_true rfl) (Nat.le_of_ble_eq_true rfl) ?_
            rintro x1505 M1506 ⟨hB1507, kp1508, kp1509, kp1510, kp1511, kp1512, kp1513, h1514, h1515, h1516, h1517, h1518, h1519, h1520⟩
            have hB1521 : BF fQ M M1506 := BF.go hB0 hB1507
            have kp1522 : mI M1506 24 = mI M 24 := kp_go rfl kp1509
            have kp1523 : mI M1506 25 = mI M 25 := kp_go rfl kp1510
            have kp1524 : mI M1506 26 = mI M 26 := kp_go rfl kp1511
            have kp1525 : mI M1506 27 = mI M 27 := kp_go rfl kp1512
            have kp1526 : mI M1506 28 = mI M 28 := kp_go rfl kp1513
            have kp1527 : mI M1506 23 = mI M 23 := kp_go rfl kp1508
            refine vc_zret dX4_readOne_190 rfl (by first | decide | omega) (Nat.le_of_ble_eq_true rfl) (Nat.le_of_ble_eq_true rfl) ?_
            exact ⟨_, rfl, hB1521, kp1522, kp1523, kp1524, kp1525, kp1526, by omega, by omega, by omega, by omega, by omega, fun h => absurd h (by omega), Or.inr ⟨by omega, by omega, by rw [h1519, h1520]; first | exact r_two3 (by omega) (by omega) | exact r_par3 (by omega) (by omega) | exact r_neg3 (by omega) (by omega)⟩⟩
        · refine vc_aload_n dX4_readOne_136 rfl ?_
          refine vc_getI dX4_readOne_137 flX4_119 (s_22 hB0.1.1) rfl ?_
          refine vc_bipush dX4_readOne_140 rfl ?_
          refine vc_icmp_ne dX4_readOne_142 (fun h1528 => ?_) (fun h1528 => ?_)
          · refine vc_iconst dX4_readOne_149 rfl ?_
            refine vc_istore_n dX4_readOne_150 (Nat.le_of_ble_eq_true rfl) rfl (show _ = [some (aR 22), some (aI d), some (aI 0), none] from rfl) ?_
            refine vc_iload_n dX4_readOne_151 rfl ?_
            refine vc_if_ne dX4_readOne_152 (fun h1529 => by exfalso; omega) (fun h1529 => ?_)
            refine vc_aload_n dX4_readOne_155 rfl ?_
            refine vc_bipush dX4_readOne_156 rfl ?_
            refine vc_cVI dX4_readOne_158 (sfX4_isSignF (M := M) hB0.1  40 ) rfl okX4_isSign viX4_isSign lkX4_163 (s_22 hB0.1.1) cl_4 rfl (by show 0 < 11 + 3 * (nf + 1); omega) ⟨rfl, rfl⟩ (Nat.le_of_ble_eq_true rfl) (Nat.le_of_ble_eq_true rfl) (Nat.le_of_ble_eq_true rfl) ?_
            rintro x1530 _ ⟨rfl, h1531, h1532, h1533⟩
            refine vc_if_ne dX4_readOne_161 (fun h1534 => ?_) (fun h1534 => ?_)
            · refine vc_iload_n dX4_readOne_179 rfl ?_
              refine vc_bipush dX4_readOne_180 rfl ?_
              refine vc_icmp_lt dX4_readOne_182 (fun h1535 => ?_) (fun h1535 => ?_)
              · refine vc_aload_n dX4_readOne_191 rfl ?_
                refine vc_getI dX4_readOne_192 flX4_119 (s_22 hB0.1.1) rfl ?_
                refine vc_nameI (fun x1536 ex1536 => ?_)
                refine vc_istore_n dX4_readOne_195 (Nat.le_of_ble_eq_true rfl) rfl (show _ = [some (aR 22), some (aI d), some (aI 0), some (aI x1536)] from rfl) ?_
                refine vc_aload_n dX4_readOne_196 rfl ?_
                refine vc_cVI dX4_readOne_197 (sfX4_takeTokenF (M := M) hB0.1  g n p hR (by omega)) rfl okX4_takeToken viX4_takeToken lkX4_65 (s_22 hB0.1.1) cl_4 rfl (by show 0 < 11 + 3 * (nf + 1); omega) ⟨rfl, rfl⟩ (Nat.le_of_ble_eq_true rfl) (Nat.le_of_ble_eq_true rfl) (Nat.le_of_ble_eq_true rfl) ?_
                rintro x1537 M1538 ⟨hB1539, kp1540, kp1541, kp1542, kp1543, kp1544, kp1545, h1546, h1547, h1548, h1549, h1550, h1551⟩
                have hB1552 : BF fQ M M1538 := BF.go hB0 hB1539
                have kp1553 : mI M1538 24 = mI M 24 := kp_go rfl kp1541
                have kp1554 : mI M1538 25 = mI M 25 := kp_go rfl kp1542
                have kp1555 : mI M1538 26 = mI M 26 := kp_go rfl kp1543
                have kp1556 : mI M1538 27 = mI M 27 := kp_go rfl kp1544
                have kp1557 : mI M1538 28 = mI M 28 := kp_go rfl kp1545
                have kp1558 : mI M1538 23 = mI M 23 := kp_go rfl kp1540
                have em1559 : EM M M1538 ([]) := EM.suf em0 (by omega) kp1540
                refine vc_pop dX4_readOne_200 rfl ?_
                refine vc_iload_n dX4_readOne_201 rfl ?_
                refine vc_if_eq dX4_readOne_202 (fun h1560 => ?_) (fun h1560 => by exfalso; omega)
                refine vc_iload_n dX4_readOne_280 rfl ?_
                refine vc_bipush dX4_readOne_281 rfl ?_
                refine vc_icmp_ne dX4_readOne_283 (fun h1561 => ?_) (fun h1561 => by exfalso; omega)
                have kt1562 : ∀ o, Rn (tk g n) (nx g n) w (2 :: sk) false (nx g n p) o → Rn (tk g n) (nx g n) w sk false p o := fun o r => r_neg (by omega) (by omega) r
                refine vc_aload_n dX4_readOne_311 rfl ?_
                refine vc_iload_n dX4_readOne_312 rfl ?_
                refine vc_iconst dX4_readOne_313 rfl ?_
                refine vc_iaddE dX4_readOne_314 (by omega) (by omega) ?_
                refine vc_cVI dX4_readOne_315 (ho (M := M1538) hB1552.1  (d + 1) (by omega) (by omega) g n (nx g n p) h1551 w (2 :: sk) (by first | (rw [List.length_cons]; omega) | omega) (by rw [show mI M1538 22 14 = mI M 22 14 by omega]; exact hw) (by omega) (by omega)) rfl (okX4_readOne (11 + 3 * nf)) (viX4_readOne (11 + 3 * nf)) (lkX4_179 (11 + 3 * nf)) (s_22 hB1552.1.1) cl_4 rfl (by show (11 + 3 * nf) < 11 + 3 * (nf + 1); omega) ⟨rfl, rfl⟩ (Nat.le_of_ble_eq_true rfl) (Nat.le_of_ble_eq_true rfl) (Nat.le_of_ble_eq_true rfl) ?_
                rintro x1563 M1564 ⟨hB1565, kp1566, kp1567, kp1568, kp1569, kp1570, h1571, h1572, h1573, h1574, h1575, h1576, h1577⟩
                have hB1578 : BF fQ M M1564 := BF.go hB1552 hB1565
                have kp1579 : mI M1564 24 = mI M 24 := kp_go kp1553 kp1566
                have kp1580 : mI M1564 25 = mI M 25 := kp_go kp1554 kp1567
                have kp1581 : mI M1564 26 = mI M 26 := kp_go kp1555 kp1568
                have kp1582 : mI M1564 27 = mI M 27 := kp_go kp1556 kp1569
                have kp1583 : mI M1564 28 = mI M 28 := kp_go kp1557 kp1570
                refine vc_if_eq dX4_readOne_318 (fun h1584 => ?_) (fun h1584 => ?_)
                · refine vc_iconst dX4_readOne_335 rfl ?_
                  refine vc_zret dX4_readOne_336 rfl (by first | decide | omega) (Nat.le_of_ble_eq_true rfl) (Nat.le_of_ble_eq_true rfl) ?_
                  exact ⟨_, rfl, hB1578, kp1579, kp1580, kp1581, kp1582, kp1583, by omega, by omega, by omega, by omega, by omega, fun h => absurd h (by omega), Or.inr ⟨by omega, (LR.bad h1577 (by omega)).1, kt1562 _ (LR.bad h1577 (by omega)).2⟩⟩
                · obtain ⟨q1585, hl1586, hR1587, hE1588, hk1589⟩ := LR.ok h1577 (by omega)
                  have kt1590 : ∀ o, Rn (tk g n) (nx g n) w (dm sk) true q1585 o → Rn (tk g n) (nx g n) w sk false p o := fun o r => kt1562 o (hk1589 o r)
                  obtain ⟨q1591, c1592, ⟨w1593, w1594, w1595, w1596, w1597⟩, f1598⟩ := h1576 (by omega)
                  have e1600 := RS.uq w1593 hR1587
                  subst e1600
                  have rg1601 := RS.rg hR1587
                  have em1602 : EM M M1564 (c1592) := EM.app (by omega) em1559 w1594
                  refine vc_aload_n dX4_readOne_321 rfl ?_
                  refine vc_sipush dX4_readOne_322 rfl ?_
                  refine vc_cVI dX4_readOne_325 (sfX4_emitF (M := M1564) hB1578.1  g n q1585 hR1587 20006 (by omega)) rfl okX4_emit viX4_emit lkX4_176 (s_22 hB1578.1.1) cl_4 rfl (by show 0 < 11 + 3 * (nf + 1); omega) ⟨rfl, rfl⟩ (Nat.le_of_ble_eq_true rfl) (Nat.le_of_ble_eq_true rfl) (Nat.le_of_ble_eq_true rfl) ?_
                  rintro x1603 M1604 ⟨hB1605, kp1606, kp1607, kp1608, kp1609, kp1610, h1611, h1612, h1613, h1614, h1615, h1616, h1617⟩
                  have hB1618 : BF fQ M M1604 := BF.go hB1578 hB1605
                  have kp1619 : mI M1604 24 = mI M 24 := kp_go kp1579 kp1606
                  have kp1620 : mI M1604 25 = mI M 25 := kp_go kp1580 kp1607
                  have kp1621 : mI M1604 26 = mI M 26 := kp_go kp1581 kp1608
                  have kp1622 : mI M1604 27 = mI M 27 := kp_go kp1582 kp1609
                  have kp1623 : mI M1604 28 = mI M 28 := kp_go kp1583 kp1610
                  have em1624 : EM M M1604 ((c1592) ++ [((2 : Int), (0 : Int))]) := EM.app (by omega) em1602 (h1616 ((2 : Int), (0 : Int)) (by rfl))
                  refine vc_if_eq dX4_readOne_328 (fun h1625 => by exfalso; omega) (fun h1625 => ?_)
                  refine vc_iconst dX4_readOne_331 rfl ?_
                  refine vc_goto dX4_readOne_332 ?_
                  refine vc_zret dX4_readOne_336 rfl (by first | decide | omega) (Nat.le_of_ble_eq_true rfl) (Nat.le_of_ble_eq_true rfl) ?_
                  exact ⟨_, rfl, hB1618, kp1619, kp1620, kp1621, kp1622, kp1623, by omega, by omega, by omega, by omega, by omega, fun _ => ⟨q1585, (c1592) ++ [((2 : Int), (0 : Int))], ⟨h1617, em1624, by omega, H1.neg (H1.up w1596 (by omega)) 0, rgO.app w1597 (rgO.one (by decide))⟩, neg_fw (by omega) rfl f1598⟩, Or.inl ⟨by omega, q1585, by omega, h1617, trivial, kt1590⟩⟩
              · refine vc_aload_n dX4_readOne_185 rfl ?_
                refine vc_iconst dX4_readOne_186 rfl ?_
                refine vc_cVI dX4_readOne_187 (sfX4_failedF (M := M) hB0.1  g n p hR 3 ) rfl okX4_failed viX4_failed lkX4_122 (s_22 hB0.1.1) cl_4 rfl (by show 0 < 11 + 3 * (nf + 1); omega) ⟨rfl, rfl⟩ (Nat.le_of_ble_eq_true rfl) (Nat.le_of_ble_eq_true rfl) (Nat.le_of_ble_eq_true rfl) ?_
                rintro x1626 M1627 ⟨hB1628, kp1629, kp1630, kp1631, kp1632, kp1633, kp1634, h1635, h1636, h1637, h1638, h1639, h1640, h1641⟩
                have hB1642 : BF fQ M M1627 := BF.go hB0 hB1628
                have kp1643 : mI M1627 24 = mI M 24 := kp_go rfl kp1630
                have kp1644 : mI M1627 25 = mI M 25 := kp_go rfl kp1631
                have kp1645 : mI M1627 26 = mI M 26 := kp_go rfl kp1632
                have kp1646 : mI M1627 27 = mI M 27 := kp_go rfl kp1633
                have kp1647 : mI M1627 28 = mI M 28 := kp_go rfl kp1634
                have kp1648 : mI M1627 23 = mI M 23 := kp_go rfl kp1629
                refine vc_zret dX4_readOne_190 rfl (by first | decide | omega) (Nat.le_of_ble_eq_true rfl) (Nat.le_of_ble_eq_true rfl) ?_
                exact ⟨_, rfl, hB1642, kp1643, kp1644, kp1645, kp1646, kp1647, by omega, by omega, by omega, by omega, by omega, fun h => absurd h (by omega), Or.inr ⟨by omega, by omega, by rw [h1640, h1641]; first | exact r_two3 (by omega) (by omega) | exact r_par3 (by omega) (by omega) | exact r_neg3 (by omega) (by omega)⟩⟩
            · refine vc_aload_n dX4_readOne_164 rfl ?_
              refine vc_bipush dX4_readOne_165 rfl ?_
              refine vc_cVI dX4_readOne_167 (sfX4_isSignF (M := M) hB0.1  45 ) rfl okX4_isSign viX4_isSign lkX4_163 (s_22 hB0.1.1) cl_4 rfl (by show 0 < 11 + 3 * (nf + 1); omega) ⟨rfl, rfl⟩ (Nat.le_of_ble_eq_true rfl) (Nat.le_of_ble_eq_true rfl) (Nat.le_of_ble_eq_true rfl) ?_
              rintro x1649 _ ⟨rfl, h1650, h1651, h1652⟩
              refine vc_if_ne dX4_readOne_170 (fun h1653 => ?_) (fun h1653 => ?_)
              · refine vc_iload_n dX4_readOne_179 rfl ?_
                refine vc_bipush dX4_readOne_180 rfl ?_
                refine vc_icmp_lt dX4_readOne_182 (fun h1654 => ?_) (fun h1654 => ?_)
                · refine vc_aload_n dX4_readOne_191 rfl ?_
                  refine vc_getI dX4_readOne_192 flX4_119 (s_22 hB0.1.1) rfl ?_
                  refine vc_nameI (fun x1655 ex1655 => ?_)
                  refine vc_istore_n dX4_readOne_195 (Nat.le_of_ble_eq_true rfl) rfl (show _ = [some (aR 22), some (aI d), some (aI 0), some (aI x1655)] from rfl) ?_
                  refine vc_aload_n dX4_readOne_196 rfl ?_
                  refine vc_cVI dX4_readOne_197 (sfX4_takeTokenF (M := M) hB0.1  g n p hR (by omega)) rfl okX4_takeToken viX4_takeToken lkX4_65 (s_22 hB0.1.1) cl_4 rfl (by show 0 < 11 + 3 * (nf + 1); omega) ⟨rfl, rfl⟩ (Nat.le_of_ble_eq_true rfl) (Nat.le_of_ble_eq_true rfl) (Nat.le_of_ble_eq_true rfl) ?_
                  rintro x1656 M1657 ⟨hB1658, kp1659, kp1660, kp1661, kp1662, kp1663, kp1664, h1665, h1666, h1667, h1668, h1669, h1670⟩
                  have hB1671 : BF fQ M M1657 := BF.go hB0 hB1658
                  have kp1672 : mI M1657 24 = mI M 24 := kp_go rfl kp1660
                  have kp1673 : mI M1657 25 = mI M 25 := kp_go rfl kp1661
                  have kp1674 : mI M1657 26 = mI M 26 := kp_go rfl kp1662
                  have kp1675 : mI M1657 27 = mI M 27 := kp_go rfl kp1663
                  have kp1676 : mI M1657 28 = mI M 28 := kp_go rfl kp1664
                  have kp1677 : mI M1657 23 = mI M 23 := kp_go rfl kp1659
                  have em1678 : EM M M1657 ([]) := EM.suf em0 (by omega) kp1659
                  refine vc_pop dX4_readOne_200 rfl ?_
                  refine vc_iload_n dX4_readOne_201 rfl ?_
                  refine vc_if_eq dX4_readOne_202 (fun h1679 => ?_) (fun h1679 => by exfalso; omega)
                  refine vc_iload_n dX4_readOne_280 rfl ?_
                  refine vc_bipush dX4_readOne_281 rfl ?_
                  refine vc_icmp_ne dX4_readOne_283 (fun h1680 => ?_) (fun h1680 => by exfalso; omega)
                  have kt1681 : ∀ o, Rn (tk g n) (nx g n) w (2 :: sk) false (nx g n p) o → Rn (tk g n) (nx g n) w sk false p o := fun o r => r_neg (by omega) (by omega) r
                  refine vc_aload_n dX4_readOne_311 rfl ?_
                  refine vc_iload_n dX4_readOne_312 rfl ?_
                  refine vc_iconst dX4_readOne_313 rfl ?_
                  refine vc_iaddE dX4_readOne_314 (by omega) (by omega) ?_
                  refine vc_cVI dX4_readOne_315 (ho (M := M1657) hB1671.1  (d + 1) (by omega) (by omega) g n (nx g n p) h1670 w (2 :: sk) (by first | (rw [List.length_cons]; omega) | omega) (by rw [show mI M1657 22 14 = mI M 22 14 by omega]; exact hw) (by omega) (by omega)) rfl (okX4_readOne (11 + 3 * nf)) (viX4_readOne (11 + 3 * nf)) (lkX4_179 (11 + 3 * nf)) (s_22 hB1671.1.1) cl_4 rfl (by show (11 + 3 * nf) < 11 + 3 * (nf + 1); omega) ⟨rfl, rfl⟩ (Nat.le_of_ble_eq_true rfl) (Nat.le_of_ble_eq_true rfl) (Nat.le_of_ble_eq_true rfl) ?_
                  rintro x1682 M1683 ⟨hB1684, kp1685, kp1686, kp1687, kp1688, kp1689, h1690, h1691, h1692, h1693, h1694, h1695, h1696⟩
                  have hB1697 : BF fQ M M1683 := BF.go hB1671 hB1684
                  have kp1698 : mI M1683 24 = mI M 24 := kp_go kp1672 kp1685
                  have kp1699 : mI M1683 25 = mI M 25 := kp_go kp1673 kp1686
                  have kp1700 : mI M1683 26 = mI M 26 := kp_go kp1674 kp1687
                  have kp1701 : mI M1683 27 = mI M 27 := kp_go kp1675 kp1688
                  have kp1702 : mI M1683 28 = mI M 28 := kp_go kp1676 kp1689
                  refine vc_if_eq dX4_readOne_318 (fun h1703 => ?_) (fun h1703 => ?_)
                  · refine vc_iconst dX4_readOne_335 rfl ?_
                    refine vc_zret dX4_readOne_336 rfl (by first | decide | omega) (Nat.le_of_ble_eq_true rfl) (Nat.le_of_ble_eq_true rfl) ?_
                    exact ⟨_, rfl, hB1697, kp1698, kp1699, kp1700, kp1701, kp1702, by omega, by omega, by omega, by omega, by omega, fun h => absurd h (by omega), Or.inr ⟨by omega, (LR.bad h1696 (by omega)).1, kt1681 _ (LR.bad h1696 (by omega)).2⟩⟩
                  · obtain ⟨q1704, hl1705, hR1706, hE1707, hk1708⟩ := LR.ok h1696 (by omega)
                    have kt1709 : ∀ o, Rn (tk g n) (nx g n) w (dm sk) true q1704 o → Rn (tk g n) (nx g n) w sk false p o := fun o r => kt1681 o (hk1708 o r)
                    obtain ⟨q1710, c1711, ⟨w1712, w1713, w1714, w1715, w1716⟩, f1717⟩ := h1695 (by omega)
                    have e1719 := RS.uq w1712 hR1706
                    subst e1719
                    have rg1720 := RS.rg hR1706
                    have em1721 : EM M M1683 (c1711) := EM.app (by omega) em1678 w1713
                    refine vc_aload_n dX4_readOne_321 rfl ?_
                    refine vc_sipush dX4_readOne_322 rfl ?_
                    refine vc_cVI dX4_readOne_325 (sfX4_emitF (M := M1683) hB1697.1  g n q1704 hR1706 20006 (by omega)) rfl okX4_emit viX4_emit lkX4_176 (s_22 hB1697.1.1) cl_4 rfl (by show 0 < 11 + 3 * (nf + 1); omega) ⟨rfl, rfl⟩ (Nat.le_of_ble_eq_true rfl) (Nat.le_of_ble_eq_true rfl) (Nat.le_of_ble_eq_true rfl) ?_
                    rintro x1722 M1723 ⟨hB1724, kp1725, kp1726, kp1727, kp1728, kp1729, h1730, h1731, h1732, h1733, h1734, h1735, h1736⟩
                    have hB1737 : BF fQ M M1723 := BF.go hB1697 hB1724
                    have kp1738 : mI M1723 24 = mI M 24 := kp_go kp1698 kp1725
                    have kp1739 : mI M1723 25 = mI M 25 := kp_go kp1699 kp1726
                    have kp1740 : mI M1723 26 = mI M 26 := kp_go kp1700 kp1727
                    have kp1741 : mI M1723 27 = mI M 27 := kp_go kp1701 kp1728
                    have kp1742 : mI M1723 28 = mI M 28 := kp_go kp1702 kp1729
                    have em1743 : EM M M1723 ((c1711) ++ [((2 : Int), (0 : Int))]) := EM.app (by omega) em1721 (h1735 ((2 : Int), (0 : Int)) (by rfl))
                    refine vc_if_eq dX4_readOne_328 (fun h1744 => by exfalso; omega) (fun h1744 => ?_)
                    refine vc_iconst dX4_readOne_331 rfl ?_
                    refine vc_goto dX4_readOne_332 ?_
                    refine vc_zret dX4_readOne_336 rfl (by first | decide | omega) (Nat.le_of_ble_eq_true rfl) (Nat.le_of_ble_eq_true rfl) ?_
                    exact ⟨_, rfl, hB1737, kp1738, kp1739, kp1740, kp1741, kp1742, by omega, by omega, by omega, by omega, by omega, fun _ => ⟨q1704, (c1711) ++ [((2 : Int), (0 : Int))], ⟨h1736, em1743, by omega, H1.neg (H1.up w1715 (by omega)) 0, rgO.app w1716 (rgO.one (by decide))⟩, neg_fw (by omega) rfl f1717⟩, Or.inl ⟨by omega, q1704, by omega, h1736, trivial, kt1709⟩⟩
                · refine vc_aload_n dX4_readOne_185 rfl ?_
                  refine vc_iconst dX4_readOne_186 rfl ?_
                  refine vc_cVI dX4_readOne_187 (sfX4_failedF (M := M) hB0.1  g n p hR 3 ) rfl okX4_failed viX4_failed lkX4_122 (s_22 hB0.1.1) cl_4 rfl (by show 0 < 11 + 3 * (nf + 1); omega) ⟨rfl, rfl⟩ (Nat.le_of_ble_eq_true rfl) (Nat.le_of_ble_eq_true rfl) (Nat.le_of_ble_eq_true rfl) ?_
                  rintro x1745 M1746 ⟨hB1747, kp1748, kp1749, kp1750, kp1751, kp1752, kp1753, h1754, h1755, h1756, h1757, h1758, h1759, h1760⟩
                  have hB1761 : BF fQ M M1746 := BF.go hB0 hB1747
                  have kp1762 : mI M1746 24 = mI M 24 := kp_go rfl kp1749
                  have kp1763 : mI M1746 25 = mI M 25 := kp_go rfl kp1750
                  have kp1764 : mI M1746 26 = mI M 26 := kp_go rfl kp1751
                  have kp1765 : mI M1746 27 = mI M 27 := kp_go rfl kp1752
                  have kp1766 : mI M1746 28 = mI M 28 := kp_go rfl kp1753
                  have kp1767 : mI M1746 23 = mI M 23 := kp_go rfl kp1748
                  refine vc_zret dX4_readOne_190 rfl (by first | decide | omega) (Nat.le_of_ble_eq_true rfl) (Nat.le_of_ble_eq_true rfl) ?_
                  exact ⟨_, rfl, hB1761, kp1762, kp1763, kp1764, kp1765, kp1766, by omega, by omega, by omega, by omega, by omega, fun h => absurd h (by omega), Or.inr ⟨by omega, by omega, by rw [h1759, h1760]; first | exact r_two3 (by omega) (by omega) | exact r_par3 (by omega) (by omega) | exact r_neg3 (by omega) (by omega)⟩⟩
              · refine vc_aload_n dX4_readOne_173 rfl ?_
                refine vc_iconst dX4_readOne_174 rfl ?_
                refine vc_cVI dX4_readOne_175 (sfX4_failedF (M := M) hB0.1  g n p hR 1 ) rfl okX4_failed viX4_failed lkX4_122 (s_22 hB0.1.1) cl_4 rfl (by show 0 < 11 + 3 * (nf + 1); omega) ⟨rfl, rfl⟩ (Nat.le_of_ble_eq_true rfl) (Nat.le_of_ble_eq_true rfl) (Nat.le_of_ble_eq_true rfl) ?_
                rintro x1768 M1769 ⟨hB1770, kp1771, kp1772, kp1773, kp1774, kp1775, kp1776, h1777, h1778, h1779, h1780, h1781, h1782, h1783⟩
                have hB1784 : BF fQ M M1769 := BF.go hB0 hB1770
                have kp1785 : mI M1769 24 = mI M 24 := kp_go rfl kp1772
                have kp1786 : mI M1769 25 = mI M 25 := kp_go rfl kp1773
                have kp1787 : mI M1769 26 = mI M 26 := kp_go rfl kp1774
                have kp1788 : mI M1769 27 = mI M 27 := kp_go rfl kp1775
                have kp1789 : mI M1769 28 = mI M 28 := kp_go rfl kp1776
                have kp1790 : mI M1769 23 = mI M 23 := kp_go rfl kp1771
                refine vc_zret dX4_readOne_178 rfl (by first | decide | omega) (Nat.le_of_ble_eq_true rfl) (Nat.le_of_ble_eq_true rfl) ?_
                exact ⟨_, rfl, hB1784, kp1785, kp1786, kp1787, kp1788, kp1789, by omega, by omega, by omega, by omega, by omega, fun h => absurd h (by omega), Or.inr ⟨by omega, by omega, by rw [h1782, h1783]; exact r_no (by omega) (by omega) (by omega) (by omega) (by omega)⟩⟩
          · refine vc_iconst dX4_readOne_145 rfl ?_
            refine vc_goto dX4_readOne_146 ?_
            refine vc_istore_n dX4_readOne_150 (Nat.le_of_ble_eq_true rfl) rfl (show _ = [some (aR 22), some (aI d), some (aI 1), none] from rfl) ?_
            refine vc_iload_n dX4_readOne_151 rfl ?_
            refine vc_if_ne dX4_readOne_152 (fun h1791 => ?_) (fun h1791 => by exfalso; omega)
            refine vc_iload_n dX4_readOne_179 rfl ?_
            refine vc_bipush dX4_readOne_180 rfl ?_
            refine vc_icmp_lt dX4_readOne_182 (fun h1792 => ?_) (fun h1792 => ?_)
            · refine vc_aload_n dX4_readOne_191 rfl ?_
              refine vc_getI dX4_readOne_192 flX4_119 (s_22 hB0.1.1) rfl ?_
              refine vc_nameI (fun x1793 ex1793 => ?_)
              refine vc_istore_n dX4_readOne_195 (Nat.le_of_ble_eq_true rfl) rfl (show _ = [some (aR 22), some (aI d), some (aI 1), some (aI x1793)] from rfl) ?_
              refine vc_aload_n dX4_readOne_196 rfl ?_
              refine vc_cVI dX4_readOne_197 (sfX4_takeTokenF (M := M) hB0.1  g n p hR (by omega)) rfl okX4_takeToken viX4_takeToken lkX4_65 (s_22 hB0.1.1) cl_4 rfl (by show 0 < 11 + 3 * (nf + 1); omega) ⟨rfl, rfl⟩ (Nat.le_of_ble_eq_true rfl) (Nat.le_of_ble_eq_true rfl) (Nat.le_of_ble_eq_true rfl) ?_
              rintro x1794 M1795 ⟨hB1796, kp1797, kp1798, kp1799, kp1800, kp1801, kp1802, h1803, h1804, h1805, h1806, h1807, h1808⟩
              have hB1809 : BF fQ M M1795 := BF.go hB0 hB1796
              have kp1810 : mI M1795 24 = mI M 24 := kp_go rfl kp1798
              have kp1811 : mI M1795 25 = mI M 25 := kp_go rfl kp1799
              have kp1812 : mI M1795 26 = mI M 26 := kp_go rfl kp1800
              have kp1813 : mI M1795 27 = mI M 27 := kp_go rfl kp1801
              have kp1814 : mI M1795 28 = mI M 28 := kp_go rfl kp1802
              have kp1815 : mI M1795 23 = mI M 23 := kp_go rfl kp1797
              have em1816 : EM M M1795 ([]) := EM.suf em0 (by omega) kp1797
              refine vc_pop dX4_readOne_200 rfl ?_
              refine vc_iload_n dX4_readOne_201 rfl ?_
              refine vc_if_eq dX4_readOne_202 (fun h1817 => by exfalso; omega) (fun h1817 => ?_)
              refine vc_aload_n dX4_readOne_205 rfl ?_
              refine vc_bipush dX4_readOne_206 rfl ?_
              refine vc_cVI dX4_readOne_208 (sfX4_readWordF (M := M1795) hB1809.1  g n (nx g n p) h1808 19 (by omega) (by omega)) rfl okX4_readWord viX4_readWord lkX4_151 (s_22 hB1809.1.1) cl_4 rfl (by show 1 < 11 + 3 * (nf + 1); omega) ⟨rfl, rfl⟩ (Nat.le_of_ble_eq_true rfl) (Nat.le_of_ble_eq_true rfl) (Nat.le_of_ble_eq_true rfl) ?_
              rintro x1818 M1819 ⟨hB1820, kp1821, kp1822, kp1823, kp1824, kp1825, kp1826, h1827, h1828, h1829, h1830, h1831, h1832⟩
              have hB1833 : BF fQ M M1819 := BF.go hB1809 hB1820
              have kp1834 : mI M1819 24 = mI M 24 := kp_go kp1810 kp1822
              have kp1835 : mI M1819 25 = mI M 25 := kp_go kp1811 kp1823
              have kp1836 : mI M1819 26 = mI M 26 := kp_go kp1812 kp1824
              have kp1837 : mI M1819 27 = mI M 27 := kp_go kp1813 kp1825
              have kp1838 : mI M1819 28 = mI M 28 := kp_go kp1814 kp1826
              have kp1839 : mI M1819 23 = mI M 23 := kp_go kp1815 kp1821
              refine vc_if_eq dX4_readOne_211 (fun h1840 => ?_) (fun h1840 => ?_)
              · refine vc_iconst dX4_readOne_278 rfl ?_
                refine vc_zret dX4_readOne_279 rfl (by first | decide | omega) (Nat.le_of_ble_eq_true rfl) (Nat.le_of_ble_eq_true rfl) ?_
                have hb1841 := TR.bad h1832 (by omega)
                exact ⟨_, rfl, hB1833, kp1834, kp1835, kp1836, kp1837, kp1838, by omega, by omega, by omega, by omega, by omega, fun h => absurd h (by omega), Or.inr ⟨by omega, by omega, by rw [hb1841.2.1, hb1841.2.2]; exact r_two1 (by omega) (by omega) (by omega)⟩⟩
              · have e1842 := TR.ok h1832 (by omega)
                have he1843 := e1842.1
                have rg1844 := RS.rg h1808
                have kt1845 : ∀ o, Rn (tk g n) (nx g n) w (41 :: sk) false (nx g n (nx g n p)) o → Rn (tk g n) (nx g n) w sk false p o := fun o r => r_two (by omega) (by omega) (by omega) r
                have em1846 : EM M M1819 ([]) := EM.suf em1816 (by omega) kp1821
                refine vc_aload_n dX4_readOne_214 rfl ?_
                refine vc_iload_n dX4_readOne_215 rfl ?_
                refine vc_iconst dX4_readOne_216 rfl ?_
                refine vc_iaddE dX4_readOne_217 (by omega) (by omega) ?_
                refine vc_cVI dX4_readOne_218 (hs (M := M1819) hB1833.1  (d + 1) (by omega) (by omega) g n (nx g n (nx g n p)) e1842.2 w (41 :: sk) (by first | (rw [List.length_cons]; omega) | omega) rfl (by rw [show mI M1819 22 14 = mI M 22 14 by omega]; exact hw) (by omega) (by omega)) rfl (okX4_readSum (13 + 3 * nf)) (viX4_readSum (13 + 3 * nf)) (lkX4_132 (13 + 3 * nf)) (s_22 hB1833.1.1) cl_4 rfl (by show (13 + 3 * nf) < 11 + 3 * (nf + 1); omega) ⟨rfl, rfl⟩ (Nat.le_of_ble_eq_true rfl) (Nat.le_of_ble_eq_true rfl) (Nat.le_of_ble_eq_true rfl) ?_
                rintro x1847 M1848 ⟨hB1849, kp1850, kp1851, kp1852, kp1853, kp1854, h1855, h1856, h1857, h1858, h1859, h1860, h1861⟩
                have hB1862 : BF fQ M M1848 := BF.go hB1833 hB1849
                have kp1863 : mI M1848 24 = mI M 24 := kp_go kp1834 kp1850
                have kp1864 : mI M1848 25 = mI M 25 := kp_go kp1835 kp1851
                have kp1865 : mI M1848 26 = mI M 26 := kp_go kp1836 kp1852
                have kp1866 : mI M1848 27 = mI M 27 := kp_go kp1837 kp1853
                have kp1867 : mI M1848 28 = mI M 28 := kp_go kp1838 kp1854
                refine vc_if_eq dX4_readOne_221 (fun h1868 => ?_) (fun h1868 => ?_)
                · refine vc_iconst dX4_readOne_278 rfl ?_
                  refine vc_zret dX4_readOne_279 rfl (by first | decide | omega) (Nat.le_of_ble_eq_true rfl) (Nat.le_of_ble_eq_true rfl) ?_
                  exact ⟨_, rfl, hB1862, kp1863, kp1864, kp1865, kp1866, kp1867, by omega, by omega, by omega, by omega, by omega, fun h => absurd h (by omega), Or.inr ⟨by omega, (LR.bad h1861 (by omega)).1, kt1845 _ (LR.bad h1861 (by omega)).2⟩⟩
                · obtain ⟨q1869, hl1870, hR1871, hE1872, hk1873⟩ := LR.ok h1861 (by omega)
                  unfold EOp at hE1872
                  have kt1874 : ∀ o, Rn (tk g n) (nx g n) w (41 :: sk) true q1869 o → Rn (tk g n) (nx g n) w sk false p o := fun o r => kt1845 o (hk1873 o r)
                  obtain ⟨q1875, c1876, ⟨w1877, w1878, w1879, w1880, w1881⟩, E1883, f1882⟩ := h1860 (by omega)
                  have e1884 := RS.uq w1877 hR1871
                  subst e1884
                  have rg1885 := RS.rg hR1871
                  unfold EOp at E1883
                  have em1886 : EM M M1848 (c1876) := EM.app (by omega) em1846 w1878
                  refine vc_aload_n dX4_readOne_224 rfl ?_
                  refine vc_bipush dX4_readOne_225 rfl ?_
                  refine vc_cVI dX4_readOne_227 (sfX4_readSignF (M := M1848) hB1862.1  g n q1869 hR1871 44 (by omega) (by omega)) rfl okX4_readSign viX4_readSign lkX4_141 (s_22 hB1862.1.1) cl_4 rfl (by show 1 < 11 + 3 * (nf + 1); omega) ⟨rfl, rfl⟩ (Nat.le_of_ble_eq_true rfl) (Nat.le_of_ble_eq_true rfl) (Nat.le_of_ble_eq_true rfl) ?_
                  rintro x1887 M1888 ⟨hB1889, kp1890, kp1891, kp1892, kp1893, kp1894, kp1895, h1896, h1897, h1898, h1899, h1900, h1901⟩
                  have hB1902 : BF fQ M M1888 := BF.go hB1862 hB1889
                  have kp1903 : mI M1888 24 = mI M 24 := kp_go kp1863 kp1891
                  have kp1904 : mI M1888 25 = mI M 25 := kp_go kp1864 kp1892
                  have kp1905 : mI M1888 26 = mI M 26 := kp_go kp1865 kp1893
                  have kp1906 : mI M1888 27 = mI M 27 := kp_go kp1866 kp1894
                  have kp1907 : mI M1888 28 = mI M 28 := kp_go kp1867 kp1895
                  refine vc_if_eq dX4_readOne_230 (fun h1908 => ?_) (fun h1908 => ?_)
                  · refine vc_iconst dX4_readOne_278 rfl ?_
                    refine vc_zret dX4_readOne_279 rfl (by first | decide | omega) (Nat.le_of_ble_eq_true rfl) (Nat.le_of_ble_eq_true rfl) ?_
                    have hb1909 := TR.bad h1901 (by omega)
                    exact ⟨_, rfl, hB1902, kp1903, kp1904, kp1905, kp1906, kp1907, by omega, by omega, by omega, by omega, by omega, fun h => absurd h (by omega), Or.inr ⟨by omega, by omega, by rw [hb1909.2.1, hb1909.2.2]; exact kt1874 _ (t_b41 hE1872 (by omega))⟩⟩
                  · have e1910 := TR.ok h1901 (by omega)
                    have he1911 := e1910.1
                    have rg1912 := RS.rg hR1871
                    have kt1913 : ∀ o, Rn (tk g n) (nx g n) w (42 :: sk) false (nx g n q1869) o → Rn (tk g n) (nx g n) w sk false p o := fun o r => kt1874 o (t_com (by omega) r)
                    have em1914 : EM M M1888 c1876 := EM.suf em1886 (by omega) kp1890
                    refine vc_aload_n dX4_readOne_233 rfl ?_
                    refine vc_iload_n dX4_readOne_234 rfl ?_
                    refine vc_iconst dX4_readOne_235 rfl ?_
                    refine vc_iaddE dX4_readOne_236 (by omega) (by omega) ?_
                    refine vc_cVI dX4_readOne_237 (hs (M := M1888) hB1902.1  (d + 1) (by omega) (by omega) g n (nx g n q1869) e1910.2 w (42 :: sk) (by first | (rw [List.length_cons]; omega) | omega) rfl (by rw [show mI M1888 22 14 = mI M 22 14 by omega]; exact hw) (by omega) (by omega)) rfl (okX4_readSum (13 + 3 * nf)) (viX4_readSum (13 + 3 * nf)) (lkX4_132 (13 + 3 * nf)) (s_22 hB1902.1.1) cl_4 rfl (by show (13 + 3 * nf) < 11 + 3 * (nf + 1); omega) ⟨rfl, rfl⟩ (Nat.le_of_ble_eq_true rfl) (Nat.le_of_ble_eq_true rfl) (Nat.le_of_ble_eq_true rfl) ?_
                    rintro x1915 M1916 ⟨hB1917, kp1918, kp1919, kp1920, kp1921, kp1922, h1923, h1924, h1925, h1926, h1927, h1928, h1929⟩
                    have hB1930 : BF fQ M M1916 := BF.go hB1902 hB1917
                    have kp1931 : mI M1916 24 = mI M 24 := kp_go kp1903 kp1918
                    have kp1932 : mI M1916 25 = mI M 25 := kp_go kp1904 kp1919
                    have kp1933 : mI M1916 26 = mI M 26 := kp_go kp1905 kp1920
                    have kp1934 : mI M1916 27 = mI M 27 := kp_go kp1906 kp1921
                    have kp1935 : mI M1916 28 = mI M 28 := kp_go kp1907 kp1922
                    refine vc_if_eq dX4_readOne_240 (fun h1936 => ?_) (fun h1936 => ?_)
                    · refine vc_iconst dX4_readOne_278 rfl ?_
                      refine vc_zret dX4_readOne_279 rfl (by first | decide | omega) (Nat.le_of_ble_eq_true rfl) (Nat.le_of_ble_eq_true rfl) ?_
                      exact ⟨_, rfl, hB1930, kp1931, kp1932, kp1933, kp1934, kp1935, by omega, by omega, by omega, by omega, by omega, fun h => absurd h (by omega), Or.inr ⟨by omega, (LR.bad h1929 (by omega)).1, kt1913 _ (LR.bad h1929 (by omega)).2⟩⟩
                    · obtain ⟨q1937, hl1938, hR1939, hE1940, hk1941⟩ := LR.ok h1929 (by omega)
                      unfold EOp at hE1940
                      have kt1942 : ∀ o, Rn (tk g n) (nx g n) w (42 :: sk) true q1937 o → Rn (tk g n) (nx g n) w sk false p o := fun o r => kt1913 o (hk1941 o r)
                      obtain ⟨q1943, c1944, ⟨w1945, w1946, w1947, w1948, w1949⟩, E1951, f1950⟩ := h1928 (by omega)
                      have e1952 := RS.uq w1945 hR1939
                      subst e1952
                      have rg1953 := RS.rg hR1939
                      unfold EOp at E1951
                      have em1954 : EM M M1916 (c1876 ++ c1944) := EM.app (by omega) em1914 w1946
                      refine vc_aload_n dX4_readOne_243 rfl ?_
                      refine vc_bipush dX4_readOne_244 rfl ?_
                      refine vc_cVI dX4_readOne_246 (sfX4_readWordF (M := M1916) hB1930.1  g n q1937 hR1939 20 (by omega) (by omega)) rfl okX4_readWord viX4_readWord lkX4_151 (s_22 hB1930.1.1) cl_4 rfl (by show 1 < 11 + 3 * (nf + 1); omega) ⟨rfl, rfl⟩ (Nat.le_of_ble_eq_true rfl) (Nat.le_of_ble_eq_true rfl) (Nat.le_of_ble_eq_true rfl) ?_
                      rintro x1955 M1956 ⟨hB1957, kp1958, kp1959, kp1960, kp1961, kp1962, kp1963, h1964, h1965, h1966, h1967, h1968, h1969⟩
                      have hB1970 : BF fQ M M1956 := BF.go hB1930 hB1957
                      have kp1971 : mI M1956 24 = mI M 24 := kp_go kp1931 kp1959
                      have kp1972 : mI M1956 25 = mI M 25 := kp_go kp1932 kp1960
                      have kp1973 : mI M1956 26 = mI M 26 := kp_go kp1933 kp1961
                      have kp1974 : mI M1956 27 = mI M 27 := kp_go kp1934 kp1962
                      have kp1975 : mI M1956 28 = mI M 28 := kp_go kp1935 kp1963
                      refine vc_if_eq dX4_readOne_249 (fun h1976 => ?_) (fun h1976 => ?_)
                      · refine vc_iconst dX4_readOne_278 rfl ?_
                        refine vc_zret dX4_readOne_279 rfl (by first | decide | omega) (Nat.le_of_ble_eq_true rfl) (Nat.le_of_ble_eq_true rfl) ?_
                        have hb1977 := TR.bad h1969 (by omega)
                        exact ⟨_, rfl, hB1970, kp1971, kp1972, kp1973, kp1974, kp1975, by omega, by omega, by omega, by omega, by omega, fun h => absurd h (by omega), Or.inr ⟨by omega, by omega, by rw [hb1977.2.1, hb1977.2.2]; exact kt1942 _ (t_b42 hE1940 (by omega))⟩⟩
                      · have e1978 := TR.ok h1969 (by omega)
                        have he1979 := e1978.1
                        have rg1980 := RS.rg hR1939
                        have kt1981 : ∀ o, Rn (tk g n) (nx g n) w (dm sk) true (nx g n q1937) o → Rn (tk g n) (nx g n) w sk false p o := fun o r => kt1942 o (t_end (by omega) r)
                        have em1982 : EM M M1956 (c1876 ++ c1944) := EM.suf em1954 (by omega) kp1958
                        refine vc_aload_n dX4_readOne_252 rfl ?_
                        refine vc_iload_n dX4_readOne_253 rfl ?_
                        refine vc_bipush dX4_readOne_254 rfl ?_
                        refine vc_icmp_ne dX4_readOne_256 (fun h1983 => ?_) (fun h1983 => by exfalso; omega)
                        refine vc_sipush dX4_readOne_265 rfl ?_
                        refine vc_cVI dX4_readOne_268 (sfX4_emitF (M := M1956) hB1970.1  g n (nx g n q1937) e1978.2 20005 (by omega)) rfl okX4_emit viX4_emit lkX4_176 (s_22 hB1970.1.1) cl_4 rfl (by show 0 < 11 + 3 * (nf + 1); omega) ⟨rfl, rfl⟩ (Nat.le_of_ble_eq_true rfl) (Nat.le_of_ble_eq_true rfl) (Nat.le_of_ble_eq_true rfl) ?_
                        rintro x1984 M1985 ⟨hB1986, kp1987, kp1988, kp1989, kp1990, kp1991, h1992, h1993, h1994, h1995, h1996, h1997, h1998⟩
                        have hB1999 : BF fQ M M1985 := BF.go hB1970 hB1986
                        have kp2000 : mI M1985 24 = mI M 24 := kp_go kp1971 kp1987
                        have kp2001 : mI M1985 25 = mI M 25 := kp_go kp1972 kp1988
                        have kp2002 : mI M1985 26 = mI M 26 := kp_go kp1973 kp1989
                        have kp2003 : mI M1985 27 = mI M 27 := kp_go kp1974 kp1990
                        have kp2004 : mI M1985 28 = mI M 28 := kp_go kp1975 kp1991
                        have em2005 : EM M M1985 ((c1876 ++ c1944) ++ [((8 : Int), (0 : Int))]) := EM.app (by omega) em1982 (h1997 ((8 : Int), (0 : Int)) (by rfl))
                        refine vc_if_eq dX4_readOne_271 (fun h2006 => by exfalso; omega) (fun h2006 => ?_)
                        refine vc_iconst dX4_readOne_274 rfl ?_
                        refine vc_goto dX4_readOne_275 ?_
                        refine vc_zret dX4_readOne_279 rfl (by first | decide | omega) (Nat.le_of_ble_eq_true rfl) (Nat.le_of_ble_eq_true rfl) ?_
                        rw [List.append_assoc] at em2005
                        exact ⟨_, rfl, hB1999, kp2000, kp2001, kp2002, kp2003, kp2004, by omega, by omega, by omega, by omega, by omega, fun _ => ⟨nx g n q1937, c1876 ++ (c1944 ++ [(8, 0)]), ⟨h1998, em2005, by omega, H1.two (H1.up w1880 (by omega)) w1948 (by decide) 0 (by omega), rgO.app w1881 (rgO.app w1949 (rgO.one (by decide)))⟩, two_fw (o := 43) (Or.inr ⟨by omega, rfl⟩) rfl rfl f1882 (by omega) rfl f1950 (by omega)⟩, Or.inl ⟨by omega, nx g n q1937, by omega, h1998, trivial, kt1981⟩⟩
            · refine vc_aload_n dX4_readOne_185 rfl ?_
              refine vc_iconst dX4_readOne_186 rfl ?_
              refine vc_cVI dX4_readOne_187 (sfX4_failedF (M := M) hB0.1  g n p hR 3 ) rfl okX4_failed viX4_failed lkX4_122 (s_22 hB0.1.1) cl_4 rfl (by show 0 < 11 + 3 * (nf + 1); omega) ⟨rfl, rfl⟩ (Nat.le_of_ble_eq_true rfl) (Nat.le_of_ble_eq_true rfl) (Nat.le_of_ble_eq_true rfl) ?_
              rintro x2007 M2008 ⟨hB2009, kp2010, kp2011, kp2012, kp2013, kp2014, kp2015, h2016, h2017, h2018, h2019, h2020, h2021, h2022⟩
              have hB2023 : BF fQ M M2008 := BF.go hB0 hB2009
              have kp2024 : mI M2008 24 = mI M 24 := kp_go rfl kp2011
              have kp2025 : mI M2008 25 = mI M 25 := kp_go rfl kp2012
              have kp2026 : mI M2008 26 = mI M 26 := kp_go rfl kp2013
              have kp2027 : mI M2008 27 = mI M 27 := kp_go rfl kp2014
              have kp2028 : mI M2008 28 = mI M 28 := kp_go rfl kp2015
              have kp2029 : mI M2008 23 = mI M 23 := kp_go rfl kp2010
              refine vc_zret dX4_readOne_190 rfl (by first | decide | omega) (Nat.le_of_ble_eq_true rfl) (Nat.le_of_ble_eq_true rfl) ?_
              exact ⟨_, rfl, hB2023, kp2024, kp2025, kp2026, kp2027, kp2028, by omega, by omega, by omega, by omega, by omega, fun h => absurd h (by omega), Or.inr ⟨by omega, by omega, by rw [h2021, h2022]; first | exact r_two3 (by omega) (by omega) | exact r_par3 (by omega) (by omega) | exact r_neg3 (by omega) (by omega)⟩⟩
      · refine vc_aload_n dX4_readOne_67 rfl ?_
        refine vc_getI dX4_readOne_68 flX4_119 (s_22 hB0.1.1) rfl ?_
        refine vc_bipush dX4_readOne_71 rfl ?_
        refine vc_isubE dX4_readOne_73 (by omega) (by omega) ?_
        refine vc_nameI (fun x2030 ex2030 => ?_)
        refine vc_istore_n dX4_readOne_74 (Nat.le_of_ble_eq_true rfl) rfl (show _ = [some (aR 22), some (aI d), some (aI x2030), none] from rfl) ?_
        have hnm := nm_iff (m := x2030) hw (by omega) (by omega)
        refine vc_aload_n dX4_readOne_75 rfl ?_
        refine vc_getI dX4_readOne_76 flX4_170 (s_22 hB0.1.1) rfl ?_
        refine vc_iload_n dX4_readOne_79 rfl ?_
        refine vc_ishr dX4_readOne_80 ?_
        refine vc_iconst dX4_readOne_81 rfl ?_
        refine vc_iandM dX4_readOne_82 2 1 rfl (Nat.le_of_ble_eq_true rfl) rfl ?_
        refine vc_if_ne dX4_readOne_83 (fun h2031 => ?_) (fun h2031 => ?_)
        · refine vc_aload_n dX4_readOne_94 rfl ?_
          refine vc_sipush dX4_readOne_95 rfl ?_
          refine vc_iload_n dX4_readOne_98 rfl ?_
          refine vc_iaddE dX4_readOne_99 (by omega) (by omega) ?_
          refine vc_cVI dX4_readOne_100 (sfX4_emitF (M := M) hB0.1  g n p hR (10000 + x2030) (by omega)) rfl okX4_emit viX4_emit lkX4_176 (s_22 hB0.1.1) cl_4 rfl (by show 0 < 11 + 3 * (nf + 1); omega) ⟨rfl, rfl⟩ (Nat.le_of_ble_eq_true rfl) (Nat.le_of_ble_eq_true rfl) (Nat.le_of_ble_eq_true rfl) ?_
          rintro x2032 M2033 ⟨hB2034, kp2035, kp2036, kp2037, kp2038, kp2039, h2040, h2041, h2042, h2043, h2044, h2045, h2046⟩
          have hB2047 : BF fQ M M2033 := BF.go hB0 hB2034
          have kp2048 : mI M2033 24 = mI M 24 := kp_go rfl kp2035
          have kp2049 : mI M2033 25 = mI M 25 := kp_go rfl kp2036
          have kp2050 : mI M2033 26 = mI M 26 := kp_go rfl kp2037
          have kp2051 : mI M2033 27 = mI M 27 := kp_go rfl kp2038
          have kp2052 : mI M2033 28 = mI M 28 := kp_go rfl kp2039
          have em2053 : EM M M2033 ([((1 : Int), tk g n p - 128)]) := EM.app (by omega) em0 (h2045 ((1 : Int), tk g n p - 128) (by have z : enc ((1 : Int), tk g n p - 128) = 10000 + (tk g n p - 128) := rfl; omega))
          refine vc_if_eq dX4_readOne_103 (fun h2054 => by exfalso; omega) (fun h2054 => ?_)
          refine vc_aload_n dX4_readOne_106 rfl ?_
          refine vc_cVI dX4_readOne_107 (sfX4_takeTokenF (M := M2033) hB2047.1  g n p h2046 (by omega)) rfl okX4_takeToken viX4_takeToken lkX4_65 (s_22 hB2047.1.1) cl_4 rfl (by show 0 < 11 + 3 * (nf + 1); omega) ⟨rfl, rfl⟩ (Nat.le_of_ble_eq_true rfl) (Nat.le_of_ble_eq_true rfl) (Nat.le_of_ble_eq_true rfl) ?_
          rintro x2055 M2056 ⟨hB2057, kp2058, kp2059, kp2060, kp2061, kp2062, kp2063, h2064, h2065, h2066, h2067, h2068, h2069⟩
          have hB2070 : BF fQ M M2056 := BF.go hB2047 hB2057
          have kp2071 : mI M2056 24 = mI M 24 := kp_go kp2048 kp2059
          have kp2072 : mI M2056 25 = mI M 25 := kp_go kp2049 kp2060
          have kp2073 : mI M2056 26 = mI M 26 := kp_go kp2050 kp2061
          have kp2074 : mI M2056 27 = mI M 27 := kp_go kp2051 kp2062
          have kp2075 : mI M2056 28 = mI M 28 := kp_go kp2052 kp2063
          have em2076 : EM M M2056 ([((1 : Int), tk g n p - 128)]) := EM.suf em2053 (by omega) kp2058
          refine vc_if_eq dX4_readOne_110 (fun h2077 => by exfalso; omega) (fun h2077 => ?_)
          refine vc_iconst dX4_readOne_113 rfl ?_
          refine vc_goto dX4_readOne_114 ?_
          refine vc_zret dX4_readOne_118 rfl (by first | decide | omega) (Nat.le_of_ble_eq_true rfl) (Nat.le_of_ble_eq_true rfl) ?_
          exact ⟨_, rfl, hB2070, kp2071, kp2072, kp2073, kp2074, kp2075, by omega, by omega, by omega, by omega, by omega, fun _ => ⟨nx g n p, [((1 : Int), tk g n p - 128)], ⟨h2069, em2076, by omega, H1.up (H1.val (by decide)) (by omega), ⟨⟨by omega, by omega, fun e => absurd e (by decide), fun _ => ⟨by omega, by omega, (show okN w _ from by first | exact Decidable.of_not_not (fun hh => by have := hnm.mpr hh; omega) | (rw [show tk g n p - 128 = x2030 by omega]; exact Decidable.of_not_not (fun hh => by have := hnm.mpr hh; omega)))⟩⟩, trivial⟩⟩, fun P fin r => c_nam (by omega) (by omega) r⟩, Or.inl ⟨by omega, nx g n p, by omega, h2069, trivial, (fun o r => r_nam (by omega) (by omega) (by rw [show tk g n p - 128 = x2030 by omega]; exact Decidable.of_not_not (fun hh => by have := hnm.mpr hh; omega)) r)⟩⟩
        · refine vc_aload_n dX4_readOne_86 rfl ?_
          refine vc_iconst dX4_readOne_87 rfl ?_
          refine vc_cVI dX4_readOne_88 (sfX4_failedF (M := M) hB0.1  g n p hR 5 ) rfl okX4_failed viX4_failed lkX4_122 (s_22 hB0.1.1) cl_4 rfl (by show 0 < 11 + 3 * (nf + 1); omega) ⟨rfl, rfl⟩ (Nat.le_of_ble_eq_true rfl) (Nat.le_of_ble_eq_true rfl) (Nat.le_of_ble_eq_true rfl) ?_
          rintro x2078 M2079 ⟨hB2080, kp2081, kp2082, kp2083, kp2084, kp2085, kp2086, h2087, h2088, h2089, h2090, h2091, h2092, h2093⟩
          have hB2094 : BF fQ M M2079 := BF.go hB0 hB2080
          have kp2095 : mI M2079 24 = mI M 24 := kp_go rfl kp2082
          have kp2096 : mI M2079 25 = mI M 25 := kp_go rfl kp2083
          have kp2097 : mI M2079 26 = mI M 26 := kp_go rfl kp2084
          have kp2098 : mI M2079 27 = mI M 27 := kp_go rfl kp2085
          have kp2099 : mI M2079 28 = mI M 28 := kp_go rfl kp2086
          have kp2100 : mI M2079 23 = mI M 23 := kp_go rfl kp2081
          refine vc_goto dX4_readOne_91 ?_
          refine vc_zret dX4_readOne_118 rfl (by first | decide | omega) (Nat.le_of_ble_eq_true rfl) (Nat.le_of_ble_eq_true rfl) ?_
          exact ⟨_, rfl, hB2094, kp2095, kp2096, kp2097, kp2098, kp2099, by omega, by omega, by omega, by omega, by omega, fun h => absurd h (by omega), Or.inr ⟨by omega, by omega, by rw [h2092, h2093]; exact r_bad (by omega) (by omega) (by rw [show tk g n p - 128 = x2030 by omega]; exact hnm.mp (by omega))⟩⟩
  · refine vc_aload_n dX4_readOne_8 rfl ?_
    refine vc_getI dX4_readOne_9 flX4_119 (s_22 hB0.1.1) rfl ?_
    refine vc_sipush dX4_readOne_12 rfl ?_
    refine vc_icmp_le dX4_readOne_15 (fun h2101 => ?_) (fun h2101 => ?_)
    · refine vc_aload_n dX4_readOne_26 rfl ?_
      refine vc_aload_n dX4_readOne_27 rfl ?_
      refine vc_getI dX4_readOne_28 flX4_119 (s_22 hB0.1.1) rfl ?_
      refine vc_cVI dX4_readOne_31 (sfX4_emitF (M := M) hB0.1  g n p hR (mI M 22 11) (by omega)) rfl okX4_emit viX4_emit lkX4_176 (s_22 hB0.1.1) cl_4 rfl (by show 0 < 11 + 3 * (nf + 1); omega) ⟨rfl, rfl⟩ (Nat.le_of_ble_eq_true rfl) (Nat.le_of_ble_eq_true rfl) (Nat.le_of_ble_eq_true rfl) ?_
      rintro x2102 M2103 ⟨hB2104, kp2105, kp2106, kp2107, kp2108, kp2109, h2110, h2111, h2112, h2113, h2114, h2115, h2116⟩
      have hB2117 : BF fQ M M2103 := BF.go hB0 hB2104
      have kp2118 : mI M2103 24 = mI M 24 := kp_go rfl kp2105
      have kp2119 : mI M2103 25 = mI M 25 := kp_go rfl kp2106
      have kp2120 : mI M2103 26 = mI M 26 := kp_go rfl kp2107
      have kp2121 : mI M2103 27 = mI M 27 := kp_go rfl kp2108
      have kp2122 : mI M2103 28 = mI M 28 := kp_go rfl kp2109
      have em2123 : EM M M2103 ([((0 : Int), tk g n p - 1000)]) := EM.app (by omega) em0 (h2115 ((0 : Int), tk g n p - 1000) (by have z : enc ((0 : Int), tk g n p - 1000) = tk g n p - 1000 := rfl; omega))
      refine vc_if_eq dX4_readOne_34 (fun h2124 => by exfalso; omega) (fun h2124 => ?_)
      refine vc_aload_n dX4_readOne_37 rfl ?_
      refine vc_cVI dX4_readOne_38 (sfX4_takeTokenF (M := M2103) hB2117.1  g n p h2116 (by omega)) rfl okX4_takeToken viX4_takeToken lkX4_65 (s_22 hB2117.1.1) cl_4 rfl (by show 0 < 11 + 3 * (nf + 1); omega) ⟨rfl, rfl⟩ (Nat.le_of_ble_eq_true rfl) (Nat.le_of_ble_eq_true rfl) (Nat.le_of_ble_eq_true rfl) ?_
      rintro x2125 M2126 ⟨hB2127, kp2128, kp2129, kp2130, kp2131, kp2132, kp2133, h2134, h2135, h2136, h2137, h2138, h2139⟩
      have hB2140 : BF fQ M M2126 := BF.go hB2117 hB2127
      have kp2141 : mI M2126 24 = mI M 24 := kp_go kp2118 kp2129
      have kp2142 : mI M2126 25 = mI M 25 := kp_go kp2119 kp2130
      have kp2143 : mI M2126 26 = mI M 26 := kp_go kp2120 kp2131
      have kp2144 : mI M2126 27 = mI M 27 := kp_go kp2121 kp2132
      have kp2145 : mI M2126 28 = mI M 28 := kp_go kp2122 kp2133
      have em2146 : EM M M2126 ([((0 : Int), tk g n p - 1000)]) := EM.suf em2123 (by omega) kp2128
      refine vc_if_eq dX4_readOne_41 (fun h2147 => by exfalso; omega) (fun h2147 => ?_)
      refine vc_iconst dX4_readOne_44 rfl ?_
      refine vc_goto dX4_readOne_45 ?_
      refine vc_zret dX4_readOne_49 rfl (by first | decide | omega) (Nat.le_of_ble_eq_true rfl) (Nat.le_of_ble_eq_true rfl) ?_
      exact ⟨_, rfl, hB2140, kp2141, kp2142, kp2143, kp2144, kp2145, by omega, by omega, by omega, by omega, by omega, fun _ => ⟨nx g n p, [((0 : Int), tk g n p - 1000)], ⟨h2139, em2146, by omega, H1.up (H1.val (by decide)) (by omega), ⟨⟨by omega, by omega, fun _ => by omega, fun e => absurd e (by decide)⟩, trivial⟩⟩, fun P fin r => c_num (by omega) r⟩, Or.inl ⟨by omega, nx g n p, by omega, h2139, trivial, (fun o r => r_num (by omega) (by omega) r)⟩⟩
    · refine vc_aload_n dX4_readOne_18 rfl ?_
      refine vc_iconst dX4_readOne_19 rfl ?_
      refine vc_cVI dX4_readOne_20 (sfX4_failedF (M := M) hB0.1  g n p hR 2 ) rfl okX4_failed viX4_failed lkX4_122 (s_22 hB0.1.1) cl_4 rfl (by show 0 < 11 + 3 * (nf + 1); omega) ⟨rfl, rfl⟩ (Nat.le_of_ble_eq_true rfl) (Nat.le_of_ble_eq_true rfl) (Nat.le_of_ble_eq_true rfl) ?_
      rintro x2148 M2149 ⟨hB2150, kp2151, kp2152, kp2153, kp2154, kp2155, kp2156, h2157, h2158, h2159, h2160, h2161, h2162, h2163⟩
      have hB2164 : BF fQ M M2149 := BF.go hB0 hB2150
      have kp2165 : mI M2149 24 = mI M 24 := kp_go rfl kp2152
      have kp2166 : mI M2149 25 = mI M 25 := kp_go rfl kp2153
      have kp2167 : mI M2149 26 = mI M 26 := kp_go rfl kp2154
      have kp2168 : mI M2149 27 = mI M 27 := kp_go rfl kp2155
      have kp2169 : mI M2149 28 = mI M 28 := kp_go rfl kp2156
      have kp2170 : mI M2149 23 = mI M 23 := kp_go rfl kp2151
      refine vc_goto dX4_readOne_23 ?_
      refine vc_zret dX4_readOne_49 rfl (by first | decide | omega) (Nat.le_of_ble_eq_true rfl) (Nat.le_of_ble_eq_true rfl) ?_
      exact ⟨_, rfl, hB2164, kp2165, kp2166, kp2167, kp2168, kp2169, by omega, by omega, by omega, by omega, by omega, fun h => absurd h (by omega), Or.inr ⟨by omega, by omega, by rw [h2162, h2163]; exact r_big (by omega)⟩⟩

set_option maxRecDepth 4000 in
theorem ld_prod {l : Launch} {nf : Nat} (ho : LdO l nf) : LdP l nf := by
  intro M hB d p0 p1 g n p hR w sk hl hd hw hc hnf
  have hB0 : BF fQ M M := BF.start hB
  have hc0 := (b22_12 hB).1
  have em0 : EM M M [] := EM.nil rfl rfl
  refine Call.of [some (aR 22), some (aI d), none, none, none] rfl (Nat.le_of_ble_eq_true rfl) rfl ?_
  have ct1 := RS.ct hR
  unfold CT at ct1
  have rg2 := RS.rg hR
  refine vc_aload_n dX4_readProduct_0 rfl ?_
  refine vc_iload_n dX4_readProduct_1 rfl ?_
  refine vc_cVI dX4_readProduct_2 (ho (M := M) hB0.1  d (by omega) (by omega) g n p hR w sk (by first | (rw [List.length_cons]; omega) | omega) (by rw [show mI M 22 14 = mI M 22 14 by omega]; exact hw) (by omega) (by omega)) rfl (okX4_readOne (11 + 3 * nf)) (viX4_readOne (11 + 3 * nf)) (lkX4_179 (11 + 3 * nf)) (s_22 hB0.1.1) cl_4 rfl (by show (11 + 3 * nf) < 12 + 3 * nf; omega) ⟨rfl, rfl⟩ (Nat.le_of_ble_eq_true rfl) (Nat.le_of_ble_eq_true rfl) (Nat.le_of_ble_eq_true rfl) ?_
  rintro x3 M4 ⟨hB5, kp6, kp7, kp8, kp9, kp10, h11, h12, h13, h14, h15, h16, h17⟩
  have hB18 : BF fQ M M4 := BF.go hB0 hB5
  have kp19 : mI M4 24 = mI M 24 := kp_go rfl kp6
  have kp20 : mI M4 25 = mI M 25 := kp_go rfl kp7
  have kp21 : mI M4 26 = mI M 26 := kp_go rfl kp8
  have kp22 : mI M4 27 = mI M 27 := kp_go rfl kp9
  have kp23 : mI M4 28 = mI M 28 := kp_go rfl kp10
  refine vc_istore_n dX4_readProduct_5 (Nat.le_of_ble_eq_true rfl) rfl (show _ = [some (aR 22), some (aI d), some (aI x3), none, none] from rfl) ?_
  have hfirst : LI g n w sk p (ETr g n) M4 x3 0 := LR.li h17 hd
  have hfirst3 : x3 = 1 → 0 ≤ mI M4 22 9 ∧ CO2 g n w M M4 p (3 * (8 - d) + 2) 2 (fun _ => True) := fun h => ⟨by omega, (h16 h).first (by omega)⟩
  refine vc_iconst dX4_readProduct_6 rfl ?_
  refine vc_istore_n dX4_readProduct_7 (Nat.le_of_ble_eq_true rfl) rfl (show _ = [some (aR 22), some (aI d), some (aI x3), some (aI 0), none] from rfl) ?_
  have lp8 : ∀ (n8 : Nat) (Mq8 : Mem) (v2 : Int) (v3 : Int), (BF fQ M Mq8) → (mI Mq8 24 = mI M 24) → (mI Mq8 25 = mI M 25) → (mI Mq8 26 = mI M 26) → (mI Mq8 27 = mI M 27) → (mI Mq8 28 = mI M 28) → (0 ≤ v2) → (v2 ≤ 1) → (0 ≤ v3) → (v3 ≤ 300) → (LI g n w sk p (ETr g n) Mq8 v2 v3) → (0 ≤ mI Mq8 22 9) → (mI Mq8 22 13 = mI M 22 13) → (mI Mq8 22 14 = mI M 22 14) → (v2 = 1 → v3 ≤ mI Mq8 22 9 ∧ CO2 g n w M Mq8 p (3 * (8 - d) + 2) 2 (fun _ => True)) → (300 - v3).toNat < n8 → VC l (mdX4_readProduct (12 + 3 * nf)) 8 [some (aR 22), some (aI d), some (aI v2), some (aI v3), none] [] Mq8 0 0 (fun q N => ∃ r : Int, q = some (aI r) ∧ BF fQ M N ∧ mI N 24 = mI M 24 ∧ mI N 25 = mI M 25 ∧ mI N 26 = mI M 26 ∧ mI N 27 = mI M 27 ∧ mI N 28 = mI M 28 ∧ 0 ≤ r ∧ r ≤ 1 ∧ 0 ≤ mI N 22 9 ∧ mI N 22 13 = mI M 22 13 ∧ mI N 22 14 = mI M 22 14 ∧ (r = 1 → CO2 g n w M N p (3 * (8 - d) + 2) 2 (EMul g n)) ∧ LR g n w sk p (EMul g n) N r) := by
    intro n8
    induction n8 with
    | zero => intro Mq8 v2 v3 hQ8 kp8_24 kp8_25 kp8_26 kp8_27 kp8_28 g8_2a g8_2b g8_3a g8_3b g8i0 g8i1 g8i2 g8i3 g8i4 hm8; exact absurd hm8 (Nat.not_lt_zero _)
    | succ n8 ih8 =>
      intro Mq8 v2 v3 hQ8 kp8_24 kp8_25 kp8_26 kp8_27 kp8_28 g8_2a g8_2b g8_3a g8_3b g8i0 g8i1 g8i2 g8i3 g8i4 hm8
      refine vc_iload_n dX4_readProduct_8 rfl ?_
      refine vc_sipush dX4_readProduct_9 rfl ?_
      refine vc_icmp_ge dX4_readProduct_12 (fun h24 => ?_) (fun h24 => ?_)
      · refine vc_iload_n dX4_readProduct_91 rfl ?_
        refine vc_zret dX4_readProduct_92 rfl (by first | decide | omega) (Nat.le_of_ble_eq_true rfl) (Nat.le_of_ble_eq_true rfl) ?_
        exact ⟨_, rfl, hQ8, kp8_24, kp8_25, kp8_26, kp8_27, kp8_28, by omega, by omega, by omega, by omega, by omega, fun h => by obtain ⟨hi9, q, c, hw, he, f⟩ := g8i4 h; have z := RS.rg hw.1; first | (exfalso; omega) | exact ⟨q, c, hw, (by unfold EMul; omega), f⟩, (by first | exact LI.nul g8i0 (by omega) | exact LI.big g8i0 (by omega) (by omega))⟩
      · refine vc_iload_n dX4_readProduct_15 rfl ?_
        refine vc_if_eq dX4_readProduct_16 (fun h25 => ?_) (fun h25 => ?_)
        · refine vc_iload_n dX4_readProduct_91 rfl ?_
          refine vc_zret dX4_readProduct_92 rfl (by first | decide | omega) (Nat.le_of_ble_eq_true rfl) (Nat.le_of_ble_eq_true rfl) ?_
          exact ⟨_, rfl, hQ8, kp8_24, kp8_25, kp8_26, kp8_27, kp8_28, by omega, by omega, by omega, by omega, by omega, fun h => by obtain ⟨hi9, q, c, hw, he, f⟩ := g8i4 h; have z := RS.rg hw.1; first | (exfalso; omega) | exact ⟨q, c, hw, (by unfold EMul; omega), f⟩, (by first | exact LI.nul g8i0 (by omega) | exact LI.big g8i0 (by omega) (by omega))⟩
        · obtain ⟨q26, hl27, hR28, hE29, hk30⟩ := LI.ok g8i0 (by omega)
          have ct31 := RS.ct hR28
          unfold CT at ct31
          have rg32 := RS.rg hR28
          obtain ⟨i42, q33, c34, ⟨w35, w36, w37, w38, w39⟩, E41, f40⟩ := g8i4 (by omega)
          have e43 := RS.uq w35 hR28
          subst e43
          refine vc_aload_n dX4_readProduct_19 rfl ?_
          refine vc_bipush dX4_readProduct_20 rfl ?_
          refine vc_cVI dX4_readProduct_22 (sfX4_isSignF (M := Mq8) hQ8.1  42 ) rfl okX4_isSign viX4_isSign lkX4_163 (s_22 hQ8.1.1) cl_4 rfl (by show 0 < 12 + 3 * nf; omega) ⟨rfl, rfl⟩ (Nat.le_of_ble_eq_true rfl) (Nat.le_of_ble_eq_true rfl) (Nat.le_of_ble_eq_true rfl) ?_
          rintro x44 _ ⟨rfl, h45, h46, h47⟩
          refine vc_if_ne dX4_readProduct_25 (fun h48 => ?_) (fun h48 => ?_)
          · refine vc_aload_n dX4_readProduct_37 rfl ?_
            refine vc_getI dX4_readProduct_38 flX4_119 (s_22 hQ8.1.1) rfl ?_
            refine vc_bipush dX4_readProduct_41 rfl ?_
            refine vc_icmp_ne dX4_readProduct_43 (fun h49 => ?_) (fun h49 => ?_)
            · refine vc_sipush dX4_readProduct_52 rfl ?_
              refine vc_istore dX4_readProduct_55 (Nat.le_of_ble_eq_true rfl) rfl (show _ = [some (aR 22), some (aI d), some (aI v2), some (aI v3), some (aI 20003)] from rfl) ?_
              have kt50 : ∀ o, Rn (tk g n) (nx g n) w sk false (nx g n q26) o → Rn (tk g n) (nx g n) w sk false p o := fun o r => hk30 o (t_op (by omega) r)
              refine vc_aload_n dX4_readProduct_57 rfl ?_
              refine vc_cVI dX4_readProduct_58 (sfX4_takeTokenF (M := Mq8) hQ8.1  g n q26 hR28 (by omega)) rfl okX4_takeToken viX4_takeToken lkX4_65 (s_22 hQ8.1.1) cl_4 rfl (by show 0 < 12 + 3 * nf; omega) ⟨rfl, rfl⟩ (Nat.le_of_ble_eq_true rfl) (Nat.le_of_ble_eq_true rfl) (Nat.le_of_ble_eq_true rfl) ?_
              rintro x51 M52 ⟨hB53, kp54, kp55, kp56, kp57, kp58, kp59, h60, h61, h62, h63, h64, h65⟩
              have hB66 : BF fQ M M52 := BF.go hQ8 hB53
              have kp67 : mI M52 24 = mI M 24 := kp_go kp8_24 kp55
              have kp68 : mI M52 25 = mI M 25 := kp_go kp8_25 kp56
              have kp69 : mI M52 26 = mI M 26 := kp_go kp8_26 kp57
              have kp70 : mI M52 27 = mI M 27 := kp_go kp8_27 kp58
              have kp71 : mI M52 28 = mI M 28 := kp_go kp8_28 kp59
              have em72 : EM M M52 c34 := EM.suf w36 (by omega) kp54
              refine vc_pop dX4_readProduct_61 rfl ?_
              refine vc_aload_n dX4_readProduct_62 rfl ?_
              refine vc_iload_n dX4_readProduct_63 rfl ?_
              refine vc_cVI dX4_readProduct_64 (ho (M := M52) hB66.1  d (by omega) (by omega) g n (nx g n q26) h65 w sk (by first | (rw [List.length_cons]; omega) | omega) (by rw [show mI M52 22 14 = mI M 22 14 by omega]; exact hw) (by omega) (by omega)) rfl (okX4_readOne (11 + 3 * nf)) (viX4_readOne (11 + 3 * nf)) (lkX4_179 (11 + 3 * nf)) (s_22 hB66.1.1) cl_4 rfl (by show (11 + 3 * nf) < 12 + 3 * nf; omega) ⟨rfl, rfl⟩ (Nat.le_of_ble_eq_true rfl) (Nat.le_of_ble_eq_true rfl) (Nat.le_of_ble_eq_true rfl) ?_
              rintro x73 M74 ⟨hB75, kp76, kp77, kp78, kp79, kp80, h81, h82, h83, h84, h85, h86, h87⟩
              have hB88 : BF fQ M M74 := BF.go hB66 hB75
              have kp89 : mI M74 24 = mI M 24 := kp_go kp67 kp76
              have kp90 : mI M74 25 = mI M 25 := kp_go kp68 kp77
              have kp91 : mI M74 26 = mI M 26 := kp_go kp69 kp78
              have kp92 : mI M74 27 = mI M 27 := kp_go kp70 kp79
              have kp93 : mI M74 28 = mI M 28 := kp_go kp71 kp80
              refine vc_if_eq dX4_readProduct_67 (fun h94 => ?_) (fun h94 => ?_)
              · refine vc_iconst dX4_readProduct_83 rfl ?_
                refine vc_istore_n dX4_readProduct_84 (Nat.le_of_ble_eq_true rfl) rfl (show _ = [some (aR 22), some (aI d), some (aI 0), some (aI v3), some (aI 20003)] from rfl) ?_
                have hnext : LI g n w sk p (ETr g n) M74 0 (v3 + 1) := Or.inr ⟨rfl, (LR.bad h87 (by omega)).1, kt50 _ (LR.bad h87 (by omega)).2⟩
                have hnext3 : ((0) : Int) = 1 → v3 + 1 ≤ mI M74 22 9 ∧ CO2 g n w M M74 p (3 * (8 - d) + 2) 2 (fun _ => True) := fun h => absurd h (by omega)
                refine vc_iincE dX4_readProduct_85 rfl (by omega) (by omega) (Nat.le_of_ble_eq_true rfl) rfl (show _ = [some (aR 22), some (aI d), some (aI 0), some (aI (v3 + 1)), some (aI 20003)] from rfl) ?_
                refine vc_goto dX4_readProduct_88 ?_
                refine vc_less [some (aR 22), some (aI d), some (aI 0), some (aI (v3 + 1)), none] (lessL_keep (lessL_keep (lessL_keep (lessL_keep (lessL_drop (lessL_nil)))))) ?_
                exact ih8 M74 0 (v3 + 1) hB88 kp89 kp90 kp91 kp92 kp93 (by omega) (by omega) (by omega) (by omega) (by first | exact hfirst | exact hnext) (by omega) (by omega) (by omega) (by first | exact hfirst3 | exact hnext3) (by omega)
              · obtain ⟨q95, hl96, hR97, hE98, hk99⟩ := LR.ok h87 (by omega)
                obtain ⟨q100, c101, ⟨w102, w103, w104, w105, w106⟩, f107⟩ := h86 (by omega)
                have e109 := RS.uq w102 hR97
                subst e109
                have rg110 := RS.rg hR97
                have em111 : EM M M74 (c34 ++ c101) := EM.app (by omega) em72 w103
                refine vc_aload_n dX4_readProduct_70 rfl ?_
                refine vc_iload dX4_readProduct_71 rfl ?_
                refine vc_cVI dX4_readProduct_73 (sfX4_emitF (M := M74) hB88.1  g n q95 hR97 20003 (by omega)) rfl okX4_emit viX4_emit lkX4_176 (s_22 hB88.1.1) cl_4 rfl (by show 0 < 12 + 3 * nf; omega) ⟨rfl, rfl⟩ (Nat.le_of_ble_eq_true rfl) (Nat.le_of_ble_eq_true rfl) (Nat.le_of_ble_eq_true rfl) ?_
                rintro x112 M113 ⟨hB114, kp115, kp116, kp117, kp118, kp119, h120, h121, h122, h123, h124, h125, h126⟩
                have hB127 : BF fQ M M113 := BF.go hB88 hB114
                have kp128 : mI M113 24 = mI M 24 := kp_go kp89 kp115
                have kp129 : mI M113 25 = mI M 25 := kp_go kp90 kp116
                have kp130 : mI M113 26 = mI M 26 := kp_go kp91 kp117
                have kp131 : mI M113 27 = mI M 27 := kp_go kp92 kp118
                have kp132 : mI M113 28 = mI M 28 := kp_go kp93 kp119
                have em133 : EM M M113 ((c34 ++ c101) ++ [(opO (tk g n q26), (0 : Int))]) := EM.app (by omega) em111 (h125 (opO (tk g n q26), (0 : Int)) (by rw [show tk g n q26 = -253 by omega]; rfl))
                refine vc_if_eq dX4_readProduct_76 (fun h134 => by exfalso; omega) (fun h134 => ?_)
                refine vc_iconst dX4_readProduct_79 rfl ?_
                refine vc_goto dX4_readProduct_80 ?_
                refine vc_istore_n dX4_readProduct_84 (Nat.le_of_ble_eq_true rfl) rfl (show _ = [some (aR 22), some (aI d), some (aI 1), some (aI v3), some (aI 20003)] from rfl) ?_
                have hnext : LI g n w sk p (ETr g n) M113 1 (v3 + 1) := Or.inl ⟨rfl, q95, by omega, h126, hE98, fun o r => kt50 o (hk99 o (by rw [hd]; exact r))⟩
                rw [List.append_assoc] at em133
                have hnext3 : ((1) : Int) = 1 → v3 + 1 ≤ mI M113 22 9 ∧ CO2 g n w M M113 p (3 * (8 - d) + 2) 2 (fun _ => True) := fun _ => ⟨by omega, q95, c34 ++ (c101 ++ [(opO (tk g n q26), 0)]), ⟨h126, em133, by omega, H1.two w38 w105 (by rcases (show tk g n q26 = -258 ∨ tk g n q26 = -253 by omega) with z | z <;> rw [z] <;> decide) 0 (by omega), rgO.app w39 (rgO.app w106 (rgO.one (by rcases (show tk g n q26 = -258 ∨ tk g n q26 = -253 by omega) with z | z <;> rw [z] <;> decide)))⟩, trivial, mul_fw f40 (show tk g n q26 = -258 ∨ tk g n q26 = -253 by omega) rfl f107⟩
                refine vc_iincE dX4_readProduct_85 rfl (by omega) (by omega) (Nat.le_of_ble_eq_true rfl) rfl (show _ = [some (aR 22), some (aI d), some (aI 1), some (aI (v3 + 1)), some (aI 20003)] from rfl) ?_
                refine vc_goto dX4_readProduct_88 ?_
                refine vc_less [some (aR 22), some (aI d), some (aI 1), some (aI (v3 + 1)), none] (lessL_keep (lessL_keep (lessL_keep (lessL_keep (lessL_drop (lessL_nil)))))) ?_
                exact ih8 M113 1 (v3 + 1) hB127 kp128 kp129 kp130 kp131 kp132 (by omega) (by omega) (by omega) (by omega) (by first | exact hfirst | exact hnext) (by omega) (by omega) (by omega) (by first | exact hfirst3 | exact hnext3) (by omega)
            · refine vc_sipush dX4_readProduct_46 rfl ?_
              refine vc_goto dX4_readProduct_49 ?_
              refine vc_istore dX4_readProduct_55 (Nat.le_of_ble_eq_true rfl) rfl (show _ = [some (aR 22), some (aI d), some (aI v2), some (aI v3), some (aI 20002)] from rfl) ?_
              have kt135 : ∀ o, Rn (tk g n) (nx g n) w sk false (nx g n q26) o → Rn (tk g n) (nx g n) w sk false p o := fun o r => hk30 o (t_op (by omega) r)
              refine vc_aload_n dX4_readProduct_57 rfl ?_
              refine vc_cVI dX4_readProduct_58 (sfX4_takeTokenF (M := Mq8) hQ8.1  g n q26 hR28 (by omega)) rfl okX4_takeToken viX4_takeToken lkX4_65 (s_22 hQ8.1.1) cl_4 rfl (by show 0 < 12 + 3 * nf; omega) ⟨rfl, rfl⟩ (Nat.le_of_ble_eq_true rfl) (Nat.le_of_ble_eq_true rfl) (Nat.le_of_ble_eq_true rfl) ?_
              rintro x136 M137 ⟨hB138, kp139, kp140, kp141, kp142, kp143, kp144, h145, h146, h147, h148, h149, h150⟩
              have hB151 : BF fQ M M137 := BF.go hQ8 hB138
              have kp152 : mI M137 24 = mI M 24 := kp_go kp8_24 kp140
              have kp153 : mI M137 25 = mI M 25 := kp_go kp8_25 kp141
              have kp154 : mI M137 26 = mI M 26 := kp_go kp8_26 kp142
              have kp155 : mI M137 27 = mI M 27 := kp_go kp8_27 kp143
              have kp156 : mI M137 28 = mI M 28 := kp_go kp8_28 kp144
              have em157 : EM M M137 c34 := EM.suf w36 (by omega) kp139
              refine vc_pop dX4_readProduct_61 rfl ?_
              refine vc_aload_n dX4_readProduct_62 rfl ?_
              refine vc_iload_n dX4_readProduct_63 rfl ?_
              refine vc_cVI dX4_readProduct_64 (ho (M := M137) hB151.1  d (by omega) (by omega) g n (nx g n q26) h150 w sk (by first | (rw [List.length_cons]; omega) | omega) (by rw [show mI M137 22 14 = mI M 22 14 by omega]; exact hw) (by omega) (by omega)) rfl (okX4_readOne (11 + 3 * nf)) (viX4_readOne (11 + 3 * nf)) (lkX4_179 (11 + 3 * nf)) (s_22 hB151.1.1) cl_4 rfl (by show (11 + 3 * nf) < 12 + 3 * nf; omega) ⟨rfl, rfl⟩ (Nat.le_of_ble_eq_true rfl) (Nat.le_of_ble_eq_true rfl) (Nat.le_of_ble_eq_true rfl) ?_
              rintro x158 M159 ⟨hB160, kp161, kp162, kp163, kp164, kp165, h166, h167, h168, h169, h170, h171, h172⟩
              have hB173 : BF fQ M M159 := BF.go hB151 hB160
              have kp174 : mI M159 24 = mI M 24 := kp_go kp152 kp161
              have kp175 : mI M159 25 = mI M 25 := kp_go kp153 kp162
              have kp176 : mI M159 26 = mI M 26 := kp_go kp154 kp163
              have kp177 : mI M159 27 = mI M 27 := kp_go kp155 kp164
              have kp178 : mI M159 28 = mI M 28 := kp_go kp156 kp165
              refine vc_if_eq dX4_readProduct_67 (fun h179 => ?_) (fun h179 => ?_)
              · refine vc_iconst dX4_readProduct_83 rfl ?_
                refine vc_istore_n dX4_readProduct_84 (Nat.le_of_ble_eq_true rfl) rfl (show _ = [some (aR 22), some (aI d), some (aI 0), some (aI v3), some (aI 20002)] from rfl) ?_
                have hnext : LI g n w sk p (ETr g n) M159 0 (v3 + 1) := Or.inr ⟨rfl, (LR.bad h172 (by omega)).1, kt135 _ (LR.bad h172 (by omega)).2⟩
                have hnext3 : ((0) : Int) = 1 → v3 + 1 ≤ mI M159 22 9 ∧ CO2 g n w M M159 p (3 * (8 - d) + 2) 2 (fun _ => True) := fun h => absurd h (by omega)
                refine vc_iincE dX4_readProduct_85 rfl (by omega) (by omega) (Nat.le_of_ble_eq_true rfl) rfl (show _ = [some (aR 22), some (aI d), some (aI 0), some (aI (v3 + 1)), some (aI 20002)] from rfl) ?_
                refine vc_goto dX4_readProduct_88 ?_
                refine vc_less [some (aR 22), some (aI d), some (aI 0), some (aI (v3 + 1)), none] (lessL_keep (lessL_keep (lessL_keep (lessL_keep (lessL_drop (lessL_nil)))))) ?_
                exact ih8 M159 0 (v3 + 1) hB173 kp174 kp175 kp176 kp177 kp178 (by omega) (by omega) (by omega) (by omega) (by first | exact hfirst | exact hnext) (by omega) (by omega) (by omega) (by first | exact hfirst3 | exact hnext3) (by omega)
              · obtain ⟨q180, hl181, hR182, hE183, hk184⟩ := LR.ok h172 (by omega)
                obtain ⟨q185, c186, ⟨w187, w188, w189, w190, w191⟩, f192⟩ := h171 (by omega)
                have e194 := RS.uq w187 hR182
                subst e194
                have rg195 := RS.rg hR182
                have em196 : EM M M159 (c34 ++ c186) := EM.app (by omega) em157 w188
                refine vc_aload_n dX4_readProduct_70 rfl ?_
                refine vc_iload dX4_readProduct_71 rfl ?_
                refine vc_cVI dX4_readProduct_73 (sfX4_emitF (M := M159) hB173.1  g n q180 hR182 20002 (by omega)) rfl okX4_emit viX4_emit lkX4_176 (s_22 hB173.1.1) cl_4 rfl (by show 0 < 12 + 3 * nf; omega) ⟨rfl, rfl⟩ (Nat.le_of_ble_eq_true rfl) (Nat.le_of_ble_eq_true rfl) (Nat.le_of_ble_eq_true rfl) ?_
                rintro x197 M198 ⟨hB199, kp200, kp201, kp202, kp203, kp204, h205, h206, h207, h208, h209, h210, h211⟩
                have hB212 : BF fQ M M198 := BF.go hB173 hB199
                have kp213 : mI M198 24 = mI M 24 := kp_go kp174 kp200
                have kp214 : mI M198 25 = mI M 25 := kp_go kp175 kp201
                have kp215 : mI M198 26 = mI M 26 := kp_go kp176 kp202
                have kp216 : mI M198 27 = mI M 27 := kp_go kp177 kp203
                have kp217 : mI M198 28 = mI M 28 := kp_go kp178 kp204
                have em218 : EM M M198 ((c34 ++ c186) ++ [(opO (tk g n q26), (0 : Int))]) := EM.app (by omega) em196 (h210 (opO (tk g n q26), (0 : Int)) (by rw [show tk g n q26 = -258 by omega]; rfl))
                refine vc_if_eq dX4_readProduct_76 (fun h219 => by exfalso; omega) (fun h219 => ?_)
                refine vc_iconst dX4_readProduct_79 rfl ?_
                refine vc_goto dX4_readProduct_80 ?_
                refine vc_istore_n dX4_readProduct_84 (Nat.le_of_ble_eq_true rfl) rfl (show _ = [some (aR 22), some (aI d), some (aI 1), some (aI v3), some (aI 20002)] from rfl) ?_
                have hnext : LI g n w sk p (ETr g n) M198 1 (v3 + 1) := Or.inl ⟨rfl, q180, by omega, h211, hE183, fun o r => kt135 o (hk184 o (by rw [hd]; exact r))⟩
                rw [List.append_assoc] at em218
                have hnext3 : ((1) : Int) = 1 → v3 + 1 ≤ mI M198 22 9 ∧ CO2 g n w M M198 p (3 * (8 - d) + 2) 2 (fun _ => True) := fun _ => ⟨by omega, q180, c34 ++ (c186 ++ [(opO (tk g n q26), 0)]), ⟨h211, em218, by omega, H1.two w38 w190 (by rcases (show tk g n q26 = -258 ∨ tk g n q26 = -253 by omega) with z | z <;> rw [z] <;> decide) 0 (by omega), rgO.app w39 (rgO.app w191 (rgO.one (by rcases (show tk g n q26 = -258 ∨ tk g n q26 = -253 by omega) with z | z <;> rw [z] <;> decide)))⟩, trivial, mul_fw f40 (show tk g n q26 = -258 ∨ tk g n q26 = -253 by omega) rfl f192⟩
                refine vc_iincE dX4_readProduct_85 rfl (by omega) (by omega) (Nat.le_of_ble_eq_true rfl) rfl (show _ = [some (aR 22), some (aI d), some (aI 1), some (aI (v3 + 1)), some (aI 20002)] from rfl) ?_
                refine vc_goto dX4_readProduct_88 ?_
                refine vc_less [some (aR 22), some (aI d), some (aI 1), some (aI (v3 + 1)), none] (lessL_keep (lessL_keep (lessL_keep (lessL_keep (lessL_drop (lessL_nil)))))) ?_
                exact ih8 M198 1 (v3 + 1) hB212 kp213 kp214 kp215 kp216 kp217 (by omega) (by omega) (by omega) (by omega) (by first | exact hfirst | exact hnext) (by omega) (by omega) (by omega) (by first | exact hfirst3 | exact hnext3) (by omega)
          · refine vc_aload_n dX4_readProduct_28 rfl ?_
            refine vc_bipush dX4_readProduct_29 rfl ?_
            refine vc_cVI dX4_readProduct_31 (sfX4_isSignF (M := Mq8) hQ8.1  47 ) rfl okX4_isSign viX4_isSign lkX4_163 (s_22 hQ8.1.1) cl_4 rfl (by show 0 < 12 + 3 * nf; omega) ⟨rfl, rfl⟩ (Nat.le_of_ble_eq_true rfl) (Nat.le_of_ble_eq_true rfl) (Nat.le_of_ble_eq_true rfl) ?_
            rintro x220 _ ⟨rfl, h221, h222, h223⟩
            refine vc_if_eq dX4_readProduct_34 (fun h224 => ?_) (fun h224 => ?_)
            · refine vc_iload_n dX4_readProduct_91 rfl ?_
              refine vc_zret dX4_readProduct_92 rfl (by first | decide | omega) (Nat.le_of_ble_eq_true rfl) (Nat.le_of_ble_eq_true rfl) ?_
              exact ⟨_, rfl, hQ8, kp8_24, kp8_25, kp8_26, kp8_27, kp8_28, by omega, by omega, by omega, by omega, by omega, fun _ => ⟨q26, c34, ⟨w35, w36, w37, w38, w39⟩, (by unfold EMul; omega), f40⟩, Or.inl ⟨by omega, q26, by omega, hR28, (by unfold EMul; omega), fun o r => hk30 o (by rw [hd] at r; exact r)⟩⟩
            · refine vc_aload_n dX4_readProduct_37 rfl ?_
              refine vc_getI dX4_readProduct_38 flX4_119 (s_22 hQ8.1.1) rfl ?_
              refine vc_bipush dX4_readProduct_41 rfl ?_
              refine vc_icmp_ne dX4_readProduct_43 (fun h225 => ?_) (fun h225 => ?_)
              · refine vc_sipush dX4_readProduct_52 rfl ?_
                refine vc_istore dX4_readProduct_55 (Nat.le_of_ble_eq_true rfl) rfl (show _ = [some (aR 22), some (aI d), some (aI v2), some (aI v3), some (aI 20003)] from rfl) ?_
                have kt226 : ∀ o, Rn (tk g n) (nx g n) w sk false (nx g n q26) o → Rn (tk g n) (nx g n) w sk false p o := fun o r => hk30 o (t_op (by omega) r)
                refine vc_aload_n dX4_readProduct_57 rfl ?_
                refine vc_cVI dX4_readProduct_58 (sfX4_takeTokenF (M := Mq8) hQ8.1  g n q26 hR28 (by omega)) rfl okX4_takeToken viX4_takeToken lkX4_65 (s_22 hQ8.1.1) cl_4 rfl (by show 0 < 12 + 3 * nf; omega) ⟨rfl, rfl⟩ (Nat.le_of_ble_eq_true rfl) (Nat.le_of_ble_eq_true rfl) (Nat.le_of_ble_eq_true rfl) ?_
                rintro x227 M228 ⟨hB229, kp230, kp231, kp232, kp233, kp234, kp235, h236, h237, h238, h239, h240, h241⟩
                have hB242 : BF fQ M M228 := BF.go hQ8 hB229
                have kp243 : mI M228 24 = mI M 24 := kp_go kp8_24 kp231
                have kp244 : mI M228 25 = mI M 25 := kp_go kp8_25 kp232
                have kp245 : mI M228 26 = mI M 26 := kp_go kp8_26 kp233
                have kp246 : mI M228 27 = mI M 27 := kp_go kp8_27 kp234
                have kp247 : mI M228 28 = mI M 28 := kp_go kp8_28 kp235
                have em248 : EM M M228 c34 := EM.suf w36 (by omega) kp230
                refine vc_pop dX4_readProduct_61 rfl ?_
                refine vc_aload_n dX4_readProduct_62 rfl ?_
                refine vc_iload_n dX4_readProduct_63 rfl ?_
                refine vc_cVI dX4_readProduct_64 (ho (M := M228) hB242.1  d (by omega) (by omega) g n (nx g n q26) h241 w sk (by first | (rw [List.length_cons]; omega) | omega) (by rw [show mI M228 22 14 = mI M 22 14 by omega]; exact hw) (by omega) (by omega)) rfl (okX4_readOne (11 + 3 * nf)) (viX4_readOne (11 + 3 * nf)) (lkX4_179 (11 + 3 * nf)) (s_22 hB242.1.1) cl_4 rfl (by show (11 + 3 * nf) < 12 + 3 * nf; omega) ⟨rfl, rfl⟩ (Nat.le_of_ble_eq_true rfl) (Nat.le_of_ble_eq_true rfl) (Nat.le_of_ble_eq_true rfl) ?_
                rintro x249 M250 ⟨hB251, kp252, kp253, kp254, kp255, kp256, h257, h258, h259, h260, h261, h262, h263⟩
                have hB264 : BF fQ M M250 := BF.go hB242 hB251
                have kp265 : mI M250 24 = mI M 24 := kp_go kp243 kp252
                have kp266 : mI M250 25 = mI M 25 := kp_go kp244 kp253
                have kp267 : mI M250 26 = mI M 26 := kp_go kp245 kp254
                have kp268 : mI M250 27 = mI M 27 := kp_go kp246 kp255
                have kp269 : mI M250 28 = mI M 28 := kp_go kp247 kp256
                refine vc_if_eq dX4_readProduct_67 (fun h270 => ?_) (fun h270 => ?_)
                · refine vc_iconst dX4_readProduct_83 rfl ?_
                  refine vc_istore_n dX4_readProduct_84 (Nat.le_of_ble_eq_true rfl) rfl (show _ = [some (aR 22), some (aI d), some (aI 0), some (aI v3), some (aI 20003)] from rfl) ?_
                  have hnext : LI g n w sk p (ETr g n) M250 0 (v3 + 1) := Or.inr ⟨rfl, (LR.bad h263 (by omega)).1, kt226 _ (LR.bad h263 (by omega)).2⟩
                  have hnext3 : ((0) : Int) = 1 → v3 + 1 ≤ mI M250 22 9 ∧ CO2 g n w M M250 p (3 * (8 - d) + 2) 2 (fun _ => True) := fun h => absurd h (by omega)
                  refine vc_iincE dX4_readProduct_85 rfl (by omega) (by omega) (Nat.le_of_ble_eq_true rfl) rfl (show _ = [some (aR 22), some (aI d), some (aI 0), some (aI (v3 + 1)), some (aI 20003)] from rfl) ?_
                  refine vc_goto dX4_readProduct_88 ?_
                  refine vc_less [some (aR 22), some (aI d), some (aI 0), some (aI (v3 + 1)), none] (lessL_keep (lessL_keep (lessL_keep (lessL_keep (lessL_drop (lessL_nil)))))) ?_
                  exact ih8 M250 0 (v3 + 1) hB264 kp265 kp266 kp267 kp268 kp269 (by omega) (by omega) (by omega) (by omega) (by first | exact hfirst | exact hnext) (by omega) (by omega) (by omega) (by first | exact hfirst3 | exact hnext3) (by omega)
                · obtain ⟨q271, hl272, hR273, hE274, hk275⟩ := LR.ok h263 (by omega)
                  obtain ⟨q276, c277, ⟨w278, w279, w280, w281, w282⟩, f283⟩ := h262 (by omega)
                  have e285 := RS.uq w278 hR273
                  subst e285
                  have rg286 := RS.rg hR273
                  have em287 : EM M M250 (c34 ++ c277) := EM.app (by omega) em248 w279
                  refine vc_aload_n dX4_readProduct_70 rfl ?_
                  refine vc_iload dX4_readProduct_71 rfl ?_
                  refine vc_cVI dX4_readProduct_73 (sfX4_emitF (M := M250) hB264.1  g n q271 hR273 20003 (by omega)) rfl okX4_emit viX4_emit lkX4_176 (s_22 hB264.1.1) cl_4 rfl (by show 0 < 12 + 3 * nf; omega) ⟨rfl, rfl⟩ (Nat.le_of_ble_eq_true rfl) (Nat.le_of_ble_eq_true rfl) (Nat.le_of_ble_eq_true rfl) ?_
                  rintro x288 M289 ⟨hB290, kp291, kp292, kp293, kp294, kp295, h296, h297, h298, h299, h300, h301, h302⟩
                  have hB303 : BF fQ M M289 := BF.go hB264 hB290
                  have kp304 : mI M289 24 = mI M 24 := kp_go kp265 kp291
                  have kp305 : mI M289 25 = mI M 25 := kp_go kp266 kp292
                  have kp306 : mI M289 26 = mI M 26 := kp_go kp267 kp293
                  have kp307 : mI M289 27 = mI M 27 := kp_go kp268 kp294
                  have kp308 : mI M289 28 = mI M 28 := kp_go kp269 kp295
                  have em309 : EM M M289 ((c34 ++ c277) ++ [(opO (tk g n q26), (0 : Int))]) := EM.app (by omega) em287 (h301 (opO (tk g n q26), (0 : Int)) (by rw [show tk g n q26 = -253 by omega]; rfl))
                  refine vc_if_eq dX4_readProduct_76 (fun h310 => by exfalso; omega) (fun h310 => ?_)
                  refine vc_iconst dX4_readProduct_79 rfl ?_
                  refine vc_goto dX4_readProduct_80 ?_
                  refine vc_istore_n dX4_readProduct_84 (Nat.le_of_ble_eq_true rfl) rfl (show _ = [some (aR 22), some (aI d), some (aI 1), some (aI v3), some (aI 20003)] from rfl) ?_
                  have hnext : LI g n w sk p (ETr g n) M289 1 (v3 + 1) := Or.inl ⟨rfl, q271, by omega, h302, hE274, fun o r => kt226 o (hk275 o (by rw [hd]; exact r))⟩
                  rw [List.append_assoc] at em309
                  have hnext3 : ((1) : Int) = 1 → v3 + 1 ≤ mI M289 22 9 ∧ CO2 g n w M M289 p (3 * (8 - d) + 2) 2 (fun _ => True) := fun _ => ⟨by omega, q271, c34 ++ (c277 ++ [(opO (tk g n q26), 0)]), ⟨h302, em309, by omega, H1.two w38 w281 (by rcases (show tk g n q26 = -258 ∨ tk g n q26 = -253 by omega) with z | z <;> rw [z] <;> decide) 0 (by omega), rgO.app w39 (rgO.app w282 (rgO.one (by rcases (show tk g n q26 = -258 ∨ tk g n q26 = -253 by omega) with z | z <;> rw [z] <;> decide)))⟩, trivial, mul_fw f40 (show tk g n q26 = -258 ∨ tk g n q26 = -253 by omega) rfl f283⟩
                  refine vc_iincE dX4_readProduct_85 rfl (by omega) (by omega) (Nat.le_of_ble_eq_true rfl) rfl (show _ = [some (aR 22), some (aI d), some (aI 1), some (aI (v3 + 1)), some (aI 20003)] from rfl) ?_
                  refine vc_goto dX4_readProduct_88 ?_
                  refine vc_less [some (aR 22), some (aI d), some (aI 1), some (aI (v3 + 1)), none] (lessL_keep (lessL_keep (lessL_keep (lessL_keep (lessL_drop (lessL_nil)))))) ?_
                  exact ih8 M289 1 (v3 + 1) hB303 kp304 kp305 kp306 kp307 kp308 (by omega) (by omega) (by omega) (by omega) (by first | exact hfirst | exact hnext) (by omega) (by omega) (by omega) (by first | exact hfirst3 | exact hnext3) (by omega)
              · refine vc_sipush dX4_readProduct_46 rfl ?_
                refine vc_goto dX4_readProduct_49 ?_
                refine vc_istore dX4_readProduct_55 (Nat.le_of_ble_eq_true rfl) rfl (show _ = [some (aR 22), some (aI d), some (aI v2), some (aI v3), some (aI 20002)] from rfl) ?_
                have kt311 : ∀ o, Rn (tk g n) (nx g n) w sk false (nx g n q26) o → Rn (tk g n) (nx g n) w sk false p o := fun o r => hk30 o (t_op (by omega) r)
                refine vc_aload_n dX4_readProduct_57 rfl ?_
                refine vc_cVI dX4_readProduct_58 (sfX4_takeTokenF (M := Mq8) hQ8.1  g n q26 hR28 (by omega)) rfl okX4_takeToken viX4_takeToken lkX4_65 (s_22 hQ8.1.1) cl_4 rfl (by show 0 < 12 + 3 * nf; omega) ⟨rfl, rfl⟩ (Nat.le_of_ble_eq_true rfl) (Nat.le_of_ble_eq_true rfl) (Nat.le_of_ble_eq_true rfl) ?_
                rintro x312 M313 ⟨hB314, kp315, kp316, kp317, kp318, kp319, kp320, h321, h322, h323, h324, h325, h326⟩
                have hB327 : BF fQ M M313 := BF.go hQ8 hB314
                have kp328 : mI M313 24 = mI M 24 := kp_go kp8_24 kp316
                have kp329 : mI M313 25 = mI M 25 := kp_go kp8_25 kp317
                have kp330 : mI M313 26 = mI M 26 := kp_go kp8_26 kp318
                have kp331 : mI M313 27 = mI M 27 := kp_go kp8_27 kp319
                have kp332 : mI M313 28 = mI M 28 := kp_go kp8_28 kp320
                have em333 : EM M M313 c34 := EM.suf w36 (by omega) kp315
                refine vc_pop dX4_readProduct_61 rfl ?_
                refine vc_aload_n dX4_readProduct_62 rfl ?_
                refine vc_iload_n dX4_readProduct_63 rfl ?_
                refine vc_cVI dX4_readProduct_64 (ho (M := M313) hB327.1  d (by omega) (by omega) g n (nx g n q26) h326 w sk (by first | (rw [List.length_cons]; omega) | omega) (by rw [show mI M313 22 14 = mI M 22 14 by omega]; exact hw) (by omega) (by omega)) rfl (okX4_readOne (11 + 3 * nf)) (viX4_readOne (11 + 3 * nf)) (lkX4_179 (11 + 3 * nf)) (s_22 hB327.1.1) cl_4 rfl (by show (11 + 3 * nf) < 12 + 3 * nf; omega) ⟨rfl, rfl⟩ (Nat.le_of_ble_eq_true rfl) (Nat.le_of_ble_eq_true rfl) (Nat.le_of_ble_eq_true rfl) ?_
                rintro x334 M335 ⟨hB336, kp337, kp338, kp339, kp340, kp341, h342, h343, h344, h345, h346, h347, h348⟩
                have hB349 : BF fQ M M335 := BF.go hB327 hB336
                have kp350 : mI M335 24 = mI M 24 := kp_go kp328 kp337
                have kp351 : mI M335 25 = mI M 25 := kp_go kp329 kp338
                have kp352 : mI M335 26 = mI M 26 := kp_go kp330 kp339
                have kp353 : mI M335 27 = mI M 27 := kp_go kp331 kp340
                have kp354 : mI M335 28 = mI M 28 := kp_go kp332 kp341
                refine vc_if_eq dX4_readProduct_67 (fun h355 => ?_) (fun h355 => ?_)
                · refine vc_iconst dX4_readProduct_83 rfl ?_
                  refine vc_istore_n dX4_readProduct_84 (Nat.le_of_ble_eq_true rfl) rfl (show _ = [some (aR 22), some (aI d), some (aI 0), some (aI v3), some (aI 20002)] from rfl) ?_
                  have hnext : LI g n w sk p (ETr g n) M335 0 (v3 + 1) := Or.inr ⟨rfl, (LR.bad h348 (by omega)).1, kt311 _ (LR.bad h348 (by omega)).2⟩
                  have hnext3 : ((0) : Int) = 1 → v3 + 1 ≤ mI M335 22 9 ∧ CO2 g n w M M335 p (3 * (8 - d) + 2) 2 (fun _ => True) := fun h => absurd h (by omega)
                  refine vc_iincE dX4_readProduct_85 rfl (by omega) (by omega) (Nat.le_of_ble_eq_true rfl) rfl (show _ = [some (aR 22), some (aI d), some (aI 0), some (aI (v3 + 1)), some (aI 20002)] from rfl) ?_
                  refine vc_goto dX4_readProduct_88 ?_
                  refine vc_less [some (aR 22), some (aI d), some (aI 0), some (aI (v3 + 1)), none] (lessL_keep (lessL_keep (lessL_keep (lessL_keep (lessL_drop (lessL_nil)))))) ?_
                  exact ih8 M335 0 (v3 + 1) hB349 kp350 kp351 kp352 kp353 kp354 (by omega) (by omega) (by omega) (by omega) (by first | exact hfirst | exact hnext) (by omega) (by omega) (by omega) (by first | exact hfirst3 | exact hnext3) (by omega)
                · obtain ⟨q356, hl357, hR358, hE359, hk360⟩ := LR.ok h348 (by omega)
                  obtain ⟨q361, c362, ⟨w363, w364, w365, w366, w367⟩, f368⟩ := h347 (by omega)
                  have e370 := RS.uq w363 hR358
                  subst e370
                  have rg371 := RS.rg hR358
                  have em372 : EM M M335 (c34 ++ c362) := EM.app (by omega) em333 w364
                  refine vc_aload_n dX4_readProduct_70 rfl ?_
                  refine vc_iload dX4_readProduct_71 rfl ?_
                  refine vc_cVI dX4_readProduct_73 (sfX4_emitF (M := M335) hB349.1  g n q356 hR358 20002 (by omega)) rfl okX4_emit viX4_emit lkX4_176 (s_22 hB349.1.1) cl_4 rfl (by show 0 < 12 + 3 * nf; omega) ⟨rfl, rfl⟩ (Nat.le_of_ble_eq_true rfl) (Nat.le_of_ble_eq_true rfl) (Nat.le_of_ble_eq_true rfl) ?_
                  rintro x373 M374 ⟨hB375, kp376, kp377, kp378, kp379, kp380, h381, h382, h383, h384, h385, h386, h387⟩
                  have hB388 : BF fQ M M374 := BF.go hB349 hB375
                  have kp389 : mI M374 24 = mI M 24 := kp_go kp350 kp376
                  have kp390 : mI M374 25 = mI M 25 := kp_go kp351 kp377
                  have kp391 : mI M374 26 = mI M 26 := kp_go kp352 kp378
                  have kp392 : mI M374 27 = mI M 27 := kp_go kp353 kp379
                  have kp393 : mI M374 28 = mI M 28 := kp_go kp354 kp380
                  have em394 : EM M M374 ((c34 ++ c362) ++ [(opO (tk g n q26), (0 : Int))]) := EM.app (by omega) em372 (h386 (opO (tk g n q26), (0 : Int)) (by rw [show tk g n q26 = -258 by omega]; rfl))
                  refine vc_if_eq dX4_readProduct_76 (fun h395 => by exfalso; omega) (fun h395 => ?_)
                  refine vc_iconst dX4_readProduct_79 rfl ?_
                  refine vc_goto dX4_readProduct_80 ?_
                  refine vc_istore_n dX4_readProduct_84 (Nat.le_of_ble_eq_true rfl) rfl (show _ = [some (aR 22), some (aI d), some (aI 1), some (aI v3), some (aI 20002)] from rfl) ?_
                  have hnext : LI g n w sk p (ETr g n) M374 1 (v3 + 1) := Or.inl ⟨rfl, q356, by omega, h387, hE359, fun o r => kt311 o (hk360 o (by rw [hd]; exact r))⟩
                  rw [List.append_assoc] at em394
                  have hnext3 : ((1) : Int) = 1 → v3 + 1 ≤ mI M374 22 9 ∧ CO2 g n w M M374 p (3 * (8 - d) + 2) 2 (fun _ => True) := fun _ => ⟨by omega, q356, c34 ++ (c362 ++ [(opO (tk g n q26), 0)]), ⟨h387, em394, by omega, H1.two w38 w366 (by rcases (show tk g n q26 = -258 ∨ tk g n q26 = -253 by omega) with z | z <;> rw [z] <;> decide) 0 (by omega), rgO.app w39 (rgO.app w367 (rgO.one (by rcases (show tk g n q26 = -258 ∨ tk g n q26 = -253 by omega) with z | z <;> rw [z] <;> decide)))⟩, trivial, mul_fw f40 (show tk g n q26 = -258 ∨ tk g n q26 = -253 by omega) rfl f368⟩
                  refine vc_iincE dX4_readProduct_85 rfl (by omega) (by omega) (Nat.le_of_ble_eq_true rfl) rfl (show _ = [some (aR 22), some (aI d), some (aI 1), some (aI (v3 + 1)), some (aI 20002)] from rfl) ?_
                  refine vc_goto dX4_readProduct_88 ?_
                  refine vc_less [some (aR 22), some (aI d), some (aI 1), some (aI (v3 + 1)), none] (lessL_keep (lessL_keep (lessL_keep (lessL_keep (lessL_drop (lessL_nil)))))) ?_
                  exact ih8 M374 1 (v3 + 1) hB388 kp389 kp390 kp391 kp392 kp393 (by omega) (by omega) (by omega) (by omega) (by first | exact hfirst | exact hnext) (by omega) (by omega) (by omega) (by first | exact hfirst3 | exact hnext3) (by omega)
  exact lp8 _ M4 x3 0 hB18 kp19 kp20 kp21 kp22 kp23 (by omega) (by omega) (by omega) (by omega) (by first | exact hfirst | exact hnext) (by omega) (by omega) (by omega) (by first | exact hfirst3 | exact hnext3) (Nat.lt_succ_self _)

set_option maxRecDepth 4000 in
theorem ld_sum {l : Launch} {nf : Nat} (hp : LdP l nf) : LdS l nf := by
  intro M hB d p0 p1 g n p hR w sk hl hd hw hc hnf
  have hB0 : BF fQ M M := BF.start hB
  have hc0 := (b22_12 hB).1
  have em0 : EM M M [] := EM.nil rfl rfl
  refine Call.of [some (aR 22), some (aI d), none, none, none] rfl (Nat.le_of_ble_eq_true rfl) rfl ?_
  have ct1 := RS.ct hR
  unfold CT at ct1
  have rg2 := RS.rg hR
  refine vc_aload_n dX4_readSum_0 rfl ?_
  refine vc_iload_n dX4_readSum_1 rfl ?_
  refine vc_cVI dX4_readSum_2 (hp (M := M) hB0.1  d (by omega) (by omega) g n p hR w sk (by first | (rw [List.length_cons]; omega) | omega) hd (by rw [show mI M 22 14 = mI M 22 14 by omega]; exact hw) (by omega) (by omega)) rfl (okX4_readProduct (12 + 3 * nf)) (viX4_readProduct (12 + 3 * nf)) (lkX4_173 (12 + 3 * nf)) (s_22 hB0.1.1) cl_4 rfl (by show (12 + 3 * nf) < 13 + 3 * nf; omega) ⟨rfl, rfl⟩ (Nat.le_of_ble_eq_true rfl) (Nat.le_of_ble_eq_true rfl) (Nat.le_of_ble_eq_true rfl) ?_
  rintro x3 M4 ⟨hB5, kp6, kp7, kp8, kp9, kp10, h11, h12, h13, h14, h15, h16, h17⟩
  have hB18 : BF fQ M M4 := BF.go hB0 hB5
  have kp19 : mI M4 24 = mI M 24 := kp_go rfl kp6
  have kp20 : mI M4 25 = mI M 25 := kp_go rfl kp7
  have kp21 : mI M4 26 = mI M 26 := kp_go rfl kp8
  have kp22 : mI M4 27 = mI M 27 := kp_go rfl kp9
  have kp23 : mI M4 28 = mI M 28 := kp_go rfl kp10
  refine vc_istore_n dX4_readSum_5 (Nat.le_of_ble_eq_true rfl) rfl (show _ = [some (aR 22), some (aI d), some (aI x3), none, none] from rfl) ?_
  have hfirst : LI g n w sk p (EMul g n) M4 x3 0 := LR.li h17 hd
  have hfirst3 : x3 = 1 → 0 ≤ mI M4 22 9 ∧ CO2 g n w M M4 p (3 * (8 - d) + 3) 1 (EMul g n) := fun h => ⟨by omega, (h16 h).first (by omega)⟩
  refine vc_iconst dX4_readSum_6 rfl ?_
  refine vc_istore_n dX4_readSum_7 (Nat.le_of_ble_eq_true rfl) rfl (show _ = [some (aR 22), some (aI d), some (aI x3), some (aI 0), none] from rfl) ?_
  have lp8 : ∀ (n8 : Nat) (Mq8 : Mem) (v2 : Int) (v3 : Int), (BF fQ M Mq8) → (mI Mq8 24 = mI M 24) → (mI Mq8 25 = mI M 25) → (mI Mq8 26 = mI M 26) → (mI Mq8 27 = mI M 27) → (mI Mq8 28 = mI M 28) → (0 ≤ v2) → (v2 ≤ 1) → (0 ≤ v3) → (v3 ≤ 300) → (LI g n w sk p (EMul g n) Mq8 v2 v3) → (0 ≤ mI Mq8 22 9) → (mI Mq8 22 13 = mI M 22 13) → (mI Mq8 22 14 = mI M 22 14) → (v2 = 1 → v3 ≤ mI Mq8 22 9 ∧ CO2 g n w M Mq8 p (3 * (8 - d) + 3) 1 (EMul g n)) → (300 - v3).toNat < n8 → VC l (mdX4_readSum (13 + 3 * nf)) 8 [some (aR 22), some (aI d), some (aI v2), some (aI v3), none] [] Mq8 0 0 (fun q N => ∃ r : Int, q = some (aI r) ∧ BF fQ M N ∧ mI N 24 = mI M 24 ∧ mI N 25 = mI M 25 ∧ mI N 26 = mI M 26 ∧ mI N 27 = mI M 27 ∧ mI N 28 = mI M 28 ∧ 0 ≤ r ∧ r ≤ 1 ∧ 0 ≤ mI N 22 9 ∧ mI N 22 13 = mI M 22 13 ∧ mI N 22 14 = mI M 22 14 ∧ (r = 1 → CO2 g n w M N p (3 * (8 - d) + 3) 1 (EOp g n)) ∧ LR g n w sk p (EOp g n) N r) := by
    intro n8
    induction n8 with
    | zero => intro Mq8 v2 v3 hQ8 kp8_24 kp8_25 kp8_26 kp8_27 kp8_28 g8_2a g8_2b g8_3a g8_3b g8i0 g8i1 g8i2 g8i3 g8i4 hm8; exact absurd hm8 (Nat.not_lt_zero _)
    | succ n8 ih8 =>
      intro Mq8 v2 v3 hQ8 kp8_24 kp8_25 kp8_26 kp8_27 kp8_28 g8_2a g8_2b g8_3a g8_3b g8i0 g8i1 g8i2 g8i3 g8i4 hm8
      refine vc_iload_n dX4_readSum_8 rfl ?_
      refine vc_sipush dX4_readSum_9 rfl ?_
      refine vc_icmp_ge dX4_readSum_12 (fun h24 => ?_) (fun h24 => ?_)
      · refine vc_iload_n dX4_readSum_91 rfl ?_
        refine vc_zret dX4_readSum_92 rfl (by first | decide | omega) (Nat.le_of_ble_eq_true rfl) (Nat.le_of_ble_eq_true rfl) ?_
        exact ⟨_, rfl, hQ8, kp8_24, kp8_25, kp8_26, kp8_27, kp8_28, by omega, by omega, by omega, by omega, by omega, fun h => by obtain ⟨hi9, q, c, hw, he, f⟩ := g8i4 h; have z := RS.rg hw.1; first | (exfalso; omega) | exact ⟨q, c, hw, (by unfold EOp; unfold EMul at he; omega), f⟩, (by first | exact LI.nul g8i0 (by omega) | exact LI.big g8i0 (by omega) (by omega))⟩
      · refine vc_iload_n dX4_readSum_15 rfl ?_
        refine vc_if_eq dX4_readSum_16 (fun h25 => ?_) (fun h25 => ?_)
        · refine vc_iload_n dX4_readSum_91 rfl ?_
          refine vc_zret dX4_readSum_92 rfl (by first | decide | omega) (Nat.le_of_ble_eq_true rfl) (Nat.le_of_ble_eq_true rfl) ?_
          exact ⟨_, rfl, hQ8, kp8_24, kp8_25, kp8_26, kp8_27, kp8_28, by omega, by omega, by omega, by omega, by omega, fun h => by obtain ⟨hi9, q, c, hw, he, f⟩ := g8i4 h; have z := RS.rg hw.1; first | (exfalso; omega) | exact ⟨q, c, hw, (by unfold EOp; unfold EMul at he; omega), f⟩, (by first | exact LI.nul g8i0 (by omega) | exact LI.big g8i0 (by omega) (by omega))⟩
        · obtain ⟨q26, hl27, hR28, hE29, hk30⟩ := LI.ok g8i0 (by omega)
          unfold EMul at hE29
          have ct31 := RS.ct hR28
          unfold CT at ct31
          have rg32 := RS.rg hR28
          obtain ⟨i42, q33, c34, ⟨w35, w36, w37, w38, w39⟩, E41, f40⟩ := g8i4 (by omega)
          have e43 := RS.uq w35 hR28
          subst e43
          unfold EMul at E41
          refine vc_aload_n dX4_readSum_19 rfl ?_
          refine vc_bipush dX4_readSum_20 rfl ?_
          refine vc_cVI dX4_readSum_22 (sfX4_isSignF (M := Mq8) hQ8.1  43 ) rfl okX4_isSign viX4_isSign lkX4_163 (s_22 hQ8.1.1) cl_4 rfl (by show 0 < 13 + 3 * nf; omega) ⟨rfl, rfl⟩ (Nat.le_of_ble_eq_true rfl) (Nat.le_of_ble_eq_true rfl) (Nat.le_of_ble_eq_true rfl) ?_
          rintro x44 _ ⟨rfl, h45, h46, h47⟩
          refine vc_if_ne dX4_readSum_25 (fun h48 => ?_) (fun h48 => ?_)
          · refine vc_aload_n dX4_readSum_37 rfl ?_
            refine vc_getI dX4_readSum_38 flX4_119 (s_22 hQ8.1.1) rfl ?_
            refine vc_bipush dX4_readSum_41 rfl ?_
            refine vc_icmp_ne dX4_readSum_43 (fun h49 => ?_) (fun h49 => ?_)
            · refine vc_sipush dX4_readSum_52 rfl ?_
              refine vc_istore dX4_readSum_55 (Nat.le_of_ble_eq_true rfl) rfl (show _ = [some (aR 22), some (aI d), some (aI v2), some (aI v3), some (aI 20001)] from rfl) ?_
              have kt50 : ∀ o, Rn (tk g n) (nx g n) w sk false (nx g n q26) o → Rn (tk g n) (nx g n) w sk false p o := fun o r => hk30 o (t_op (by omega) r)
              refine vc_aload_n dX4_readSum_57 rfl ?_
              refine vc_cVI dX4_readSum_58 (sfX4_takeTokenF (M := Mq8) hQ8.1  g n q26 hR28 (by omega)) rfl okX4_takeToken viX4_takeToken lkX4_65 (s_22 hQ8.1.1) cl_4 rfl (by show 0 < 13 + 3 * nf; omega) ⟨rfl, rfl⟩ (Nat.le_of_ble_eq_true rfl) (Nat.le_of_ble_eq_true rfl) (Nat.le_of_ble_eq_true rfl) ?_
              rintro x51 M52 ⟨hB53, kp54, kp55, kp56, kp57, kp58, kp59, h60, h61, h62, h63, h64, h65⟩
              have hB66 : BF fQ M M52 := BF.go hQ8 hB53
              have kp67 : mI M52 24 = mI M 24 := kp_go kp8_24 kp55
              have kp68 : mI M52 25 = mI M 25 := kp_go kp8_25 kp56
              have kp69 : mI M52 26 = mI M 26 := kp_go kp8_26 kp57
              have kp70 : mI M52 27 = mI M 27 := kp_go kp8_27 kp58
              have kp71 : mI M52 28 = mI M 28 := kp_go kp8_28 kp59
              have em72 : EM M M52 c34 := EM.suf w36 (by omega) kp54
              refine vc_pop dX4_readSum_61 rfl ?_
              refine vc_aload_n dX4_readSum_62 rfl ?_
              refine vc_iload_n dX4_readSum_63 rfl ?_
              refine vc_cVI dX4_readSum_64 (hp (M := M52) hB66.1  d (by omega) (by omega) g n (nx g n q26) h65 w sk (by first | (rw [List.length_cons]; omega) | omega) hd (by rw [show mI M52 22 14 = mI M 22 14 by omega]; exact hw) (by omega) (by omega)) rfl (okX4_readProduct (12 + 3 * nf)) (viX4_readProduct (12 + 3 * nf)) (lkX4_173 (12 + 3 * nf)) (s_22 hB66.1.1) cl_4 rfl (by show (12 + 3 * nf) < 13 + 3 * nf; omega) ⟨rfl, rfl⟩ (Nat.le_of_ble_eq_true rfl) (Nat.le_of_ble_eq_true rfl) (Nat.le_of_ble_eq_true rfl) ?_
              rintro x73 M74 ⟨hB75, kp76, kp77, kp78, kp79, kp80, h81, h82, h83, h84, h85, h86, h87⟩
              have hB88 : BF fQ M M74 := BF.go hB66 hB75
              have kp89 : mI M74 24 = mI M 24 := kp_go kp67 kp76
              have kp90 : mI M74 25 = mI M 25 := kp_go kp68 kp77
              have kp91 : mI M74 26 = mI M 26 := kp_go kp69 kp78
              have kp92 : mI M74 27 = mI M 27 := kp_go kp70 kp79
              have kp93 : mI M74 28 = mI M 28 := kp_go kp71 kp80
              refine vc_if_eq dX4_readSum_67 (fun h94 => ?_) (fun h94 => ?_)
              · refine vc_iconst dX4_readSum_83 rfl ?_
                refine vc_istore_n dX4_readSum_84 (Nat.le_of_ble_eq_true rfl) rfl (show _ = [some (aR 22), some (aI d), some (aI 0), some (aI v3), some (aI 20001)] from rfl) ?_
                have hnext : LI g n w sk p (EMul g n) M74 0 (v3 + 1) := Or.inr ⟨rfl, (LR.bad h87 (by omega)).1, kt50 _ (LR.bad h87 (by omega)).2⟩
                have hnext3 : ((0) : Int) = 1 → v3 + 1 ≤ mI M74 22 9 ∧ CO2 g n w M M74 p (3 * (8 - d) + 3) 1 (EMul g n) := fun h => absurd h (by omega)
                refine vc_iincE dX4_readSum_85 rfl (by omega) (by omega) (Nat.le_of_ble_eq_true rfl) rfl (show _ = [some (aR 22), some (aI d), some (aI 0), some (aI (v3 + 1)), some (aI 20001)] from rfl) ?_
                refine vc_goto dX4_readSum_88 ?_
                refine vc_less [some (aR 22), some (aI d), some (aI 0), some (aI (v3 + 1)), none] (lessL_keep (lessL_keep (lessL_keep (lessL_keep (lessL_drop (lessL_nil)))))) ?_
                exact ih8 M74 0 (v3 + 1) hB88 kp89 kp90 kp91 kp92 kp93 (by omega) (by omega) (by omega) (by omega) (by first | exact hfirst | exact hnext) (by omega) (by omega) (by omega) (by first | exact hfirst3 | exact hnext3) (by omega)
              · obtain ⟨q95, hl96, hR97, hE98, hk99⟩ := LR.ok h87 (by omega)
                unfold EMul at hE98
                obtain ⟨q100, c101, ⟨w102, w103, w104, w105, w106⟩, E108, f107⟩ := h86 (by omega)
                have e109 := RS.uq w102 hR97
                subst e109
                have rg110 := RS.rg hR97
                unfold EMul at E108
                have em111 : EM M M74 (c34 ++ c101) := EM.app (by omega) em72 w103
                refine vc_aload_n dX4_readSum_70 rfl ?_
                refine vc_iload dX4_readSum_71 rfl ?_
                refine vc_cVI dX4_readSum_73 (sfX4_emitF (M := M74) hB88.1  g n q95 hR97 20001 (by omega)) rfl okX4_emit viX4_emit lkX4_176 (s_22 hB88.1.1) cl_4 rfl (by show 0 < 13 + 3 * nf; omega) ⟨rfl, rfl⟩ (Nat.le_of_ble_eq_true rfl) (Nat.le_of_ble_eq_true rfl) (Nat.le_of_ble_eq_true rfl) ?_
                rintro x112 M113 ⟨hB114, kp115, kp116, kp117, kp118, kp119, h120, h121, h122, h123, h124, h125, h126⟩
                have hB127 : BF fQ M M113 := BF.go hB88 hB114
                have kp128 : mI M113 24 = mI M 24 := kp_go kp89 kp115
                have kp129 : mI M113 25 = mI M 25 := kp_go kp90 kp116
                have kp130 : mI M113 26 = mI M 26 := kp_go kp91 kp117
                have kp131 : mI M113 27 = mI M 27 := kp_go kp92 kp118
                have kp132 : mI M113 28 = mI M 28 := kp_go kp93 kp119
                have em133 : EM M M113 ((c34 ++ c101) ++ [(opO (tk g n q26), (0 : Int))]) := EM.app (by omega) em111 (h125 (opO (tk g n q26), (0 : Int)) (by rw [show tk g n q26 = -255 by omega]; rfl))
                refine vc_if_eq dX4_readSum_76 (fun h134 => by exfalso; omega) (fun h134 => ?_)
                refine vc_iconst dX4_readSum_79 rfl ?_
                refine vc_goto dX4_readSum_80 ?_
                refine vc_istore_n dX4_readSum_84 (Nat.le_of_ble_eq_true rfl) rfl (show _ = [some (aR 22), some (aI d), some (aI 1), some (aI v3), some (aI 20001)] from rfl) ?_
                have hnext : LI g n w sk p (EMul g n) M113 1 (v3 + 1) := Or.inl ⟨rfl, q95, by omega, h126, (by unfold EMul; omega), fun o r => kt50 o (hk99 o (by rw [hd]; exact r))⟩
                rw [List.append_assoc] at em133
                have hnext3 : ((1) : Int) = 1 → v3 + 1 ≤ mI M113 22 9 ∧ CO2 g n w M M113 p (3 * (8 - d) + 3) 1 (EMul g n) := fun _ => ⟨by omega, q95, c34 ++ (c101 ++ [(opO (tk g n q26), 0)]), ⟨h126, em133, by omega, H1.two w38 w105 (by rcases (show tk g n q26 = -257 ∨ tk g n q26 = -255 by omega) with z | z <;> rw [z] <;> decide) 0 (by omega), rgO.app w39 (rgO.app w106 (rgO.one (by rcases (show tk g n q26 = -257 ∨ tk g n q26 = -255 by omega) with z | z <;> rw [z] <;> decide)))⟩, (by unfold EMul; omega), add_fw f40 (show tk g n q26 = -257 ∨ tk g n q26 = -255 by omega) rfl f107 (by omega)⟩
                refine vc_iincE dX4_readSum_85 rfl (by omega) (by omega) (Nat.le_of_ble_eq_true rfl) rfl (show _ = [some (aR 22), some (aI d), some (aI 1), some (aI (v3 + 1)), some (aI 20001)] from rfl) ?_
                refine vc_goto dX4_readSum_88 ?_
                refine vc_less [some (aR 22), some (aI d), some (aI 1), some (aI (v3 + 1)), none] (lessL_keep (lessL_keep (lessL_keep (lessL_keep (lessL_drop (lessL_nil)))))) ?_
                exact ih8 M113 1 (v3 + 1) hB127 kp128 kp129 kp130 kp131 kp132 (by omega) (by omega) (by omega) (by omega) (by first | exact hfirst | exact hnext) (by omega) (by omega) (by omega) (by first | exact hfirst3 | exact hnext3) (by omega)
            · refine vc_sipush dX4_readSum_46 rfl ?_
              refine vc_goto dX4_readSum_49 ?_
              refine vc_istore dX4_readSum_55 (Nat.le_of_ble_eq_true rfl) rfl (show _ = [some (aR 22), some (aI d), some (aI v2), some (aI v3), some (aI 20000)] from rfl) ?_
              have kt135 : ∀ o, Rn (tk g n) (nx g n) w sk false (nx g n q26) o → Rn (tk g n) (nx g n) w sk false p o := fun o r => hk30 o (t_op (by omega) r)
              refine vc_aload_n dX4_readSum_57 rfl ?_
              refine vc_cVI dX4_readSum_58 (sfX4_takeTokenF (M := Mq8) hQ8.1  g n q26 hR28 (by omega)) rfl okX4_takeToken viX4_takeToken lkX4_65 (s_22 hQ8.1.1) cl_4 rfl (by show 0 < 13 + 3 * nf; omega) ⟨rfl, rfl⟩ (Nat.le_of_ble_eq_true rfl) (Nat.le_of_ble_eq_true rfl) (Nat.le_of_ble_eq_true rfl) ?_
              rintro x136 M137 ⟨hB138, kp139, kp140, kp141, kp142, kp143, kp144, h145, h146, h147, h148, h149, h150⟩
              have hB151 : BF fQ M M137 := BF.go hQ8 hB138
              have kp152 : mI M137 24 = mI M 24 := kp_go kp8_24 kp140
              have kp153 : mI M137 25 = mI M 25 := kp_go kp8_25 kp141
              have kp154 : mI M137 26 = mI M 26 := kp_go kp8_26 kp142
              have kp155 : mI M137 27 = mI M 27 := kp_go kp8_27 kp143
              have kp156 : mI M137 28 = mI M 28 := kp_go kp8_28 kp144
              have em157 : EM M M137 c34 := EM.suf w36 (by omega) kp139
              refine vc_pop dX4_readSum_61 rfl ?_
              refine vc_aload_n dX4_readSum_62 rfl ?_
              refine vc_iload_n dX4_readSum_63 rfl ?_
              refine vc_cVI dX4_readSum_64 (hp (M := M137) hB151.1  d (by omega) (by omega) g n (nx g n q26) h150 w sk (by first | (rw [List.length_cons]; omega) | omega) hd (by rw [show mI M137 22 14 = mI M 22 14 by omega]; exact hw) (by omega) (by omega)) rfl (okX4_readProduct (12 + 3 * nf)) (viX4_readProduct (12 + 3 * nf)) (lkX4_173 (12 + 3 * nf)) (s_22 hB151.1.1) cl_4 rfl (by show (12 + 3 * nf) < 13 + 3 * nf; omega) ⟨rfl, rfl⟩ (Nat.le_of_ble_eq_true rfl) (Nat.le_of_ble_eq_true rfl) (Nat.le_of_ble_eq_true rfl) ?_
              rintro x158 M159 ⟨hB160, kp161, kp162, kp163, kp164, kp165, h166, h167, h168, h169, h170, h171, h172⟩
              have hB173 : BF fQ M M159 := BF.go hB151 hB160
              have kp174 : mI M159 24 = mI M 24 := kp_go kp152 kp161
              have kp175 : mI M159 25 = mI M 25 := kp_go kp153 kp162
              have kp176 : mI M159 26 = mI M 26 := kp_go kp154 kp163
              have kp177 : mI M159 27 = mI M 27 := kp_go kp155 kp164
              have kp178 : mI M159 28 = mI M 28 := kp_go kp156 kp165
              refine vc_if_eq dX4_readSum_67 (fun h179 => ?_) (fun h179 => ?_)
              · refine vc_iconst dX4_readSum_83 rfl ?_
                refine vc_istore_n dX4_readSum_84 (Nat.le_of_ble_eq_true rfl) rfl (show _ = [some (aR 22), some (aI d), some (aI 0), some (aI v3), some (aI 20000)] from rfl) ?_
                have hnext : LI g n w sk p (EMul g n) M159 0 (v3 + 1) := Or.inr ⟨rfl, (LR.bad h172 (by omega)).1, kt135 _ (LR.bad h172 (by omega)).2⟩
                have hnext3 : ((0) : Int) = 1 → v3 + 1 ≤ mI M159 22 9 ∧ CO2 g n w M M159 p (3 * (8 - d) + 3) 1 (EMul g n) := fun h => absurd h (by omega)
                refine vc_iincE dX4_readSum_85 rfl (by omega) (by omega) (Nat.le_of_ble_eq_true rfl) rfl (show _ = [some (aR 22), some (aI d), some (aI 0), some (aI (v3 + 1)), some (aI 20000)] from rfl) ?_
                refine vc_goto dX4_readSum_88 ?_
                refine vc_less [some (aR 22), some (aI d), some (aI 0), some (aI (v3 + 1)), none] (lessL_keep (lessL_keep (lessL_keep (lessL_keep (lessL_drop (lessL_nil)))))) ?_
                exact ih8 M159 0 (v3 + 1) hB173 kp174 kp175 kp176 kp177 kp178 (by omega) (by omega) (by omega) (by omega) (by first | exact hfirst | exact hnext) (by omega) (by omega) (by omega) (by first | exact hfirst3 | exact hnext3) (by omega)
              · obtain ⟨q180, hl181, hR182, hE183, hk184⟩ := LR.ok h172 (by omega)
                unfold EMul at hE183
                obtain ⟨q185, c186, ⟨w187, w188, w189, w190, w191⟩, E193, f192⟩ := h171 (by omega)
                have e194 := RS.uq w187 hR182
                subst e194
                have rg195 := RS.rg hR182
                unfold EMul at E193
                have em196 : EM M M159 (c34 ++ c186) := EM.app (by omega) em157 w188
                refine vc_aload_n dX4_readSum_70 rfl ?_
                refine vc_iload dX4_readSum_71 rfl ?_
                refine vc_cVI dX4_readSum_73 (sfX4_emitF (M := M159) hB173.1  g n q180 hR182 20000 (by omega)) rfl okX4_emit viX4_emit lkX4_176 (s_22 hB173.1.1) cl_4 rfl (by show 0 < 13 + 3 * nf; omega) ⟨rfl, rfl⟩ (Nat.le_of_ble_eq_true rfl) (Nat.le_of_ble_eq_true rfl) (Nat.le_of_ble_eq_true rfl) ?_
                rintro x197 M198 ⟨hB199, kp200, kp201, kp202, kp203, kp204, h205, h206, h207, h208, h209, h210, h211⟩
                have hB212 : BF fQ M M198 := BF.go hB173 hB199
                have kp213 : mI M198 24 = mI M 24 := kp_go kp174 kp200
                have kp214 : mI M198 25 = mI M 25 := kp_go kp175 kp201
                have kp215 : mI M198 26 = mI M 26 := kp_go kp176 kp202
                have kp216 : mI M198 27 = mI M 27 := kp_go kp177 kp203
                have kp217 : mI M198 28 = mI M 28 := kp_go kp178 kp204
                have em218 : EM M M198 ((c34 ++ c186) ++ [(opO (tk g n q26), (0 : Int))]) := EM.app (by omega) em196 (h210 (opO (tk g n q26), (0 : Int)) (by rw [show tk g n q26 = -257 by omega]; rfl))
                refine vc_if_eq dX4_readSum_76 (fun h219 => by exfalso; omega) (fun h219 => ?_)
                refine vc_iconst dX4_readSum_79 rfl ?_
                refine vc_goto dX4_readSum_80 ?_
                refine vc_istore_n dX4_readSum_84 (Nat.le_of_ble_eq_true rfl) rfl (show _ = [some (aR 22), some (aI d), some (aI 1), some (aI v3), some (aI 20000)] from rfl) ?_
                have hnext : LI g n w sk p (EMul g n) M198 1 (v3 + 1) := Or.inl ⟨rfl, q180, by omega, h211, (by unfold EMul; omega), fun o r => kt135 o (hk184 o (by rw [hd]; exact r))⟩
                rw [List.append_assoc] at em218
                have hnext3 : ((1) : Int) = 1 → v3 + 1 ≤ mI M198 22 9 ∧ CO2 g n w M M198 p (3 * (8 - d) + 3) 1 (EMul g n) := fun _ => ⟨by omega, q180, c34 ++ (c186 ++ [(opO (tk g n q26), 0)]), ⟨h211, em218, by omega, H1.two w38 w190 (by rcases (show tk g n q26 = -257 ∨ tk g n q26 = -255 by omega) with z | z <;> rw [z] <;> decide) 0 (by omega), rgO.app w39 (rgO.app w191 (rgO.one (by rcases (show tk g n q26 = -257 ∨ tk g n q26 = -255 by omega) with z | z <;> rw [z] <;> decide)))⟩, (by unfold EMul; omega), add_fw f40 (show tk g n q26 = -257 ∨ tk g n q26 = -255 by omega) rfl f192 (by omega)⟩
                refine vc_iincE dX4_readSum_85 rfl (by omega) (by omega) (Nat.le_of_ble_eq_true rfl) rfl (show _ = [some (aR 22), some (aI d), some (aI 1), some (aI (v3 + 1)), some (aI 20000)] from rfl) ?_
                refine vc_goto dX4_readSum_88 ?_
                refine vc_less [some (aR 22), some (aI d), some (aI 1), some (aI (v3 + 1)), none] (lessL_keep (lessL_keep (lessL_keep (lessL_keep (lessL_drop (lessL_nil)))))) ?_
                exact ih8 M198 1 (v3 + 1) hB212 kp213 kp214 kp215 kp216 kp217 (by omega) (by omega) (by omega) (by omega) (by first | exact hfirst | exact hnext) (by omega) (by omega) (by omega) (by first | exact hfirst3 | exact hnext3) (by omega)
          · refine vc_aload_n dX4_readSum_28 rfl ?_
            refine vc_bipush dX4_readSum_29 rfl ?_
            refine vc_cVI dX4_readSum_31 (sfX4_isSignF (M := Mq8) hQ8.1  45 ) rfl okX4_isSign viX4_isSign lkX4_163 (s_22 hQ8.1.1) cl_4 rfl (by show 0 < 13 + 3 * nf; omega) ⟨rfl, rfl⟩ (Nat.le_of_ble_eq_true rfl) (Nat.le_of_ble_eq_true rfl) (Nat.le_of_ble_eq_true rfl) ?_
            rintro x220 _ ⟨rfl, h221, h222, h223⟩
            refine vc_if_eq dX4_readSum_34 (fun h224 => ?_) (fun h224 => ?_)
            · refine vc_iload_n dX4_readSum_91 rfl ?_
              refine vc_zret dX4_readSum_92 rfl (by first | decide | omega) (Nat.le_of_ble_eq_true rfl) (Nat.le_of_ble_eq_true rfl) ?_
              exact ⟨_, rfl, hQ8, kp8_24, kp8_25, kp8_26, kp8_27, kp8_28, by omega, by omega, by omega, by omega, by omega, fun _ => ⟨q26, c34, ⟨w35, w36, w37, w38, w39⟩, (by unfold EOp; omega), f40⟩, Or.inl ⟨by omega, q26, by omega, hR28, (by unfold EOp; omega), fun o r => hk30 o (by rw [hd] at r; exact r)⟩⟩
            · refine vc_aload_n dX4_readSum_37 rfl ?_
              refine vc_getI dX4_readSum_38 flX4_119 (s_22 hQ8.1.1) rfl ?_
              refine vc_bipush dX4_readSum_41 rfl ?_
              refine vc_icmp_ne dX4_readSum_43 (fun h225 => ?_) (fun h225 => ?_)
              · refine vc_sipush dX4_readSum_52 rfl ?_
                refine vc_istore dX4_readSum_55 (Nat.le_of_ble_eq_true rfl) rfl (show _ = [some (aR 22), some (aI d), some (aI v2), some (aI v3), some (aI 20001)] from rfl) ?_
                have kt226 : ∀ o, Rn (tk g n) (nx g n) w sk false (nx g n q26) o → Rn (tk g n) (nx g n) w sk false p o := fun o r => hk30 o (t_op (by omega) r)
                refine vc_aload_n dX4_readSum_57 rfl ?_
                refine vc_cVI dX4_readSum_58 (sfX4_takeTokenF (M := Mq8) hQ8.1  g n q26 hR28 (by omega)) rfl okX4_takeToken viX4_takeToken lkX4_65 (s_22 hQ8.1.1) cl_4 rfl (by show 0 < 13 + 3 * nf; omega) ⟨rfl, rfl⟩ (Nat.le_of_ble_eq_true rfl) (Nat.le_of_ble_eq_true rfl) (Nat.le_of_ble_eq_true rfl) ?_
                rintro x227 M228 ⟨hB229, kp230, kp231, kp232, kp233, kp234, kp235, h236, h237, h238, h239, h240, h241⟩
                have hB242 : BF fQ M M228 := BF.go hQ8 hB229
                have kp243 : mI M228 24 = mI M 24 := kp_go kp8_24 kp231
                have kp244 : mI M228 25 = mI M 25 := kp_go kp8_25 kp232
                have kp245 : mI M228 26 = mI M 26 := kp_go kp8_26 kp233
                have kp246 : mI M228 27 = mI M 27 := kp_go kp8_27 kp234
                have kp247 : mI M228 28 = mI M 28 := kp_go kp8_28 kp235
                have em248 : EM M M228 c34 := EM.suf w36 (by omega) kp230
                refine vc_pop dX4_readSum_61 rfl ?_
                refine vc_aload_n dX4_readSum_62 rfl ?_
                refine vc_iload_n dX4_readSum_63 rfl ?_
                refine vc_cVI dX4_readSum_64 (hp (M := M228) hB242.1  d (by omega) (by omega) g n (nx g n q26) h241 w sk (by first | (rw [List.length_cons]; omega) | omega) hd (by rw [show mI M228 22 14 = mI M 22 14 by omega]; exact hw) (by omega) (by omega)) rfl (okX4_readProduct (12 + 3 * nf)) (viX4_readProduct (12 + 3 * nf)) (lkX4_173 (12 + 3 * nf)) (s_22 hB242.1.1) cl_4 rfl (by show (12 + 3 * nf) < 13 + 3 * nf; omega) ⟨rfl, rfl⟩ (Nat.le_of_ble_eq_true rfl) (Nat.le_of_ble_eq_true rfl) (Nat.le_of_ble_eq_true rfl) ?_
                rintro x249 M250 ⟨hB251, kp252, kp253, kp254, kp255, kp256, h257, h258, h259, h260, h261, h262, h263⟩
                have hB264 : BF fQ M M250 := BF.go hB242 hB251
                have kp265 : mI M250 24 = mI M 24 := kp_go kp243 kp252
                have kp266 : mI M250 25 = mI M 25 := kp_go kp244 kp253
                have kp267 : mI M250 26 = mI M 26 := kp_go kp245 kp254
                have kp268 : mI M250 27 = mI M 27 := kp_go kp246 kp255
                have kp269 : mI M250 28 = mI M 28 := kp_go kp247 kp256
                refine vc_if_eq dX4_readSum_67 (fun h270 => ?_) (fun h270 => ?_)
                · refine vc_iconst dX4_readSum_83 rfl ?_
                  refine vc_istore_n dX4_readSum_84 (Nat.le_of_ble_eq_true rfl) rfl (show _ = [some (aR 22), some (aI d), some (aI 0), some (aI v3), some (aI 20001)] from rfl) ?_
                  have hnext : LI g n w sk p (EMul g n) M250 0 (v3 + 1) := Or.inr ⟨rfl, (LR.bad h263 (by omega)).1, kt226 _ (LR.bad h263 (by omega)).2⟩
                  have hnext3 : ((0) : Int) = 1 → v3 + 1 ≤ mI M250 22 9 ∧ CO2 g n w M M250 p (3 * (8 - d) + 3) 1 (EMul g n) := fun h => absurd h (by omega)
                  refine vc_iincE dX4_readSum_85 rfl (by omega) (by omega) (Nat.le_of_ble_eq_true rfl) rfl (show _ = [some (aR 22), some (aI d), some (aI 0), some (aI (v3 + 1)), some (aI 20001)] from rfl) ?_
                  refine vc_goto dX4_readSum_88 ?_
                  refine vc_less [some (aR 22), some (aI d), some (aI 0), some (aI (v3 + 1)), none] (lessL_keep (lessL_keep (lessL_keep (lessL_keep (lessL_drop (lessL_nil)))))) ?_
                  exact ih8 M250 0 (v3 + 1) hB264 kp265 kp266 kp267 kp268 kp269 (by omega) (by omega) (by omega) (by omega) (by first | exact hfirst | exact hnext) (by omega) (by omega) (by omega) (by first | exact hfirst3 | exact hnext3) (by omega)
                · obtain ⟨q271, hl272, hR273, hE274, hk275⟩ := LR.ok h263 (by omega)
                  unfold EMul at hE274
                  obtain ⟨q276, c277, ⟨w278, w279, w280, w281, w282⟩, E284, f283⟩ := h262 (by omega)
                  have e285 := RS.uq w278 hR273
                  subst e285
                  have rg286 := RS.rg hR273
                  unfold EMul at E284
                  have em287 : EM M M250 (c34 ++ c277) := EM.app (by omega) em248 w279
                  refine vc_aload_n dX4_readSum_70 rfl ?_
                  refine vc_iload dX4_readSum_71 rfl ?_
                  refine vc_cVI dX4_readSum_73 (sfX4_emitF (M := M250) hB264.1  g n q271 hR273 20001 (by omega)) rfl okX4_emit viX4_emit lkX4_176 (s_22 hB264.1.1) cl_4 rfl (by show 0 < 13 + 3 * nf; omega) ⟨rfl, rfl⟩ (Nat.le_of_ble_eq_true rfl) (Nat.le_of_ble_eq_true rfl) (Nat.le_of_ble_eq_true rfl) ?_
                  rintro x288 M289 ⟨hB290, kp291, kp292, kp293, kp294, kp295, h296, h297, h298, h299, h300, h301, h302⟩
                  have hB303 : BF fQ M M289 := BF.go hB264 hB290
                  have kp304 : mI M289 24 = mI M 24 := kp_go kp265 kp291
                  have kp305 : mI M289 25 = mI M 25 := kp_go kp266 kp292
                  have kp306 : mI M289 26 = mI M 26 := kp_go kp267 kp293
                  have kp307 : mI M289 27 = mI M 27 := kp_go kp268 kp294
                  have kp308 : mI M289 28 = mI M 28 := kp_go kp269 kp295
                  have em309 : EM M M289 ((c34 ++ c277) ++ [(opO (tk g n q26), (0 : Int))]) := EM.app (by omega) em287 (h301 (opO (tk g n q26), (0 : Int)) (by rw [show tk g n q26 = -255 by omega]; rfl))
                  refine vc_if_eq dX4_readSum_76 (fun h310 => by exfalso; omega) (fun h310 => ?_)
                  refine vc_iconst dX4_readSum_79 rfl ?_
                  refine vc_goto dX4_readSum_80 ?_
                  refine vc_istore_n dX4_readSum_84 (Nat.le_of_ble_eq_true rfl) rfl (show _ = [some (aR 22), some (aI d), some (aI 1), some (aI v3), some (aI 20001)] from rfl) ?_
                  have hnext : LI g n w sk p (EMul g n) M289 1 (v3 + 1) := Or.inl ⟨rfl, q271, by omega, h302, (by unfold EMul; omega), fun o r => kt226 o (hk275 o (by rw [hd]; exact r))⟩
                  rw [List.append_assoc] at em309
                  have hnext3 : ((1) : Int) = 1 → v3 + 1 ≤ mI M289 22 9 ∧ CO2 g n w M M289 p (3 * (8 - d) + 3) 1 (EMul g n) := fun _ => ⟨by omega, q271, c34 ++ (c277 ++ [(opO (tk g n q26), 0)]), ⟨h302, em309, by omega, H1.two w38 w281 (by rcases (show tk g n q26 = -257 ∨ tk g n q26 = -255 by omega) with z | z <;> rw [z] <;> decide) 0 (by omega), rgO.app w39 (rgO.app w282 (rgO.one (by rcases (show tk g n q26 = -257 ∨ tk g n q26 = -255 by omega) with z | z <;> rw [z] <;> decide)))⟩, (by unfold EMul; omega), add_fw f40 (show tk g n q26 = -257 ∨ tk g n q26 = -255 by omega) rfl f283 (by omega)⟩
                  refine vc_iincE dX4_readSum_85 rfl (by omega) (by omega) (Nat.le_of_ble_eq_true rfl) rfl (show _ = [some (aR 22), some (aI d), some (aI 1), some (aI (v3 + 1)), some (aI 20001)] from rfl) ?_
                  refine vc_goto dX4_readSum_88 ?_
                  refine vc_less [some (aR 22), some (aI d), some (aI 1), some (aI (v3 + 1)), none] (lessL_keep (lessL_keep (lessL_keep (lessL_keep (lessL_drop (lessL_nil)))))) ?_
                  exact ih8 M289 1 (v3 + 1) hB303 kp304 kp305 kp306 kp307 kp308 (by omega) (by omega) (by omega) (by omega) (by first | exact hfirst | exact hnext) (by omega) (by omega) (by omega) (by first | exact hfirst3 | exact hnext3) (by omega)
              · refine vc_sipush dX4_readSum_46 rfl ?_
                refine vc_goto dX4_readSum_49 ?_
                refine vc_istore dX4_readSum_55 (Nat.le_of_ble_eq_true rfl) rfl (show _ = [some (aR 22), some (aI d), some (aI v2), some (aI v3), some (aI 20000)] from rfl) ?_
                have kt311 : ∀ o, Rn (tk g n) (nx g n) w sk false (nx g n q26) o → Rn (tk g n) (nx g n) w sk false p o := fun o r => hk30 o (t_op (by omega) r)
                refine vc_aload_n dX4_readSum_57 rfl ?_
                refine vc_cVI dX4_readSum_58 (sfX4_takeTokenF (M := Mq8) hQ8.1  g n q26 hR28 (by omega)) rfl okX4_takeToken viX4_takeToken lkX4_65 (s_22 hQ8.1.1) cl_4 rfl (by show 0 < 13 + 3 * nf; omega) ⟨rfl, rfl⟩ (Nat.le_of_ble_eq_true rfl) (Nat.le_of_ble_eq_true rfl) (Nat.le_of_ble_eq_true rfl) ?_
                rintro x312 M313 ⟨hB314, kp315, kp316, kp317, kp318, kp319, kp320, h321, h322, h323, h324, h325, h326⟩
                have hB327 : BF fQ M M313 := BF.go hQ8 hB314
                have kp328 : mI M313 24 = mI M 24 := kp_go kp8_24 kp316
                have kp329 : mI M313 25 = mI M 25 := kp_go kp8_25 kp317
                have kp330 : mI M313 26 = mI M 26 := kp_go kp8_26 kp318
                have kp331 : mI M313 27 = mI M 27 := kp_go kp8_27 kp319
                have kp332 : mI M313 28 = mI M 28 := kp_go kp8_28 kp320
                have em333 : EM M M313 c34 := EM.suf w36 (by omega) kp315
                refine vc_pop dX4_readSum_61 rfl ?_
                refine vc_aload_n dX4_readSum_62 rfl ?_
                refine vc_iload_n dX4_readSum_63 rfl ?_
                refine vc_cVI dX4_readSum_64 (hp (M := M313) hB327.1  d (by omega) (by omega) g n (nx g n q26) h326 w sk (by first | (rw [List.length_cons]; omega) | omega) hd (by rw [show mI M313 22 14 = mI M 22 14 by omega]; exact hw) (by omega) (by omega)) rfl (okX4_readProduct (12 + 3 * nf)) (viX4_readProduct (12 + 3 * nf)) (lkX4_173 (12 + 3 * nf)) (s_22 hB327.1.1) cl_4 rfl (by show (12 + 3 * nf) < 13 + 3 * nf; omega) ⟨rfl, rfl⟩ (Nat.le_of_ble_eq_true rfl) (Nat.le_of_ble_eq_true rfl) (Nat.le_of_ble_eq_true rfl) ?_
                rintro x334 M335 ⟨hB336, kp337, kp338, kp339, kp340, kp341, h342, h343, h344, h345, h346, h347, h348⟩
                have hB349 : BF fQ M M335 := BF.go hB327 hB336
                have kp350 : mI M335 24 = mI M 24 := kp_go kp328 kp337
                have kp351 : mI M335 25 = mI M 25 := kp_go kp329 kp338
                have kp352 : mI M335 26 = mI M 26 := kp_go kp330 kp339
                have kp353 : mI M335 27 = mI M 27 := kp_go kp331 kp340
                have kp354 : mI M335 28 = mI M 28 := kp_go kp332 kp341
                refine vc_if_eq dX4_readSum_67 (fun h355 => ?_) (fun h355 => ?_)
                · refine vc_iconst dX4_readSum_83 rfl ?_
                  refine vc_istore_n dX4_readSum_84 (Nat.le_of_ble_eq_true rfl) rfl (show _ = [some (aR 22), some (aI d), some (aI 0), some (aI v3), some (aI 20000)] from rfl) ?_
                  have hnext : LI g n w sk p (EMul g n) M335 0 (v3 + 1) := Or.inr ⟨rfl, (LR.bad h348 (by omega)).1, kt311 _ (LR.bad h348 (by omega)).2⟩
                  have hnext3 : ((0) : Int) = 1 → v3 + 1 ≤ mI M335 22 9 ∧ CO2 g n w M M335 p (3 * (8 - d) + 3) 1 (EMul g n) := fun h => absurd h (by omega)
                  refine vc_iincE dX4_readSum_85 rfl (by omega) (by omega) (Nat.le_of_ble_eq_true rfl) rfl (show _ = [some (aR 22), some (aI d), some (aI 0), some (aI (v3 + 1)), some (aI 20000)] from rfl) ?_
                  refine vc_goto dX4_readSum_88 ?_
                  refine vc_less [some (aR 22), some (aI d), some (aI 0), some (aI (v3 + 1)), none] (lessL_keep (lessL_keep (lessL_keep (lessL_keep (lessL_drop (lessL_nil)))))) ?_
                  exact ih8 M335 0 (v3 + 1) hB349 kp350 kp351 kp352 kp353 kp354 (by omega) (by omega) (by omega) (by omega) (by first | exact hfirst | exact hnext) (by omega) (by omega) (by omega) (by first | exact hfirst3 | exact hnext3) (by omega)
                · obtain ⟨q356, hl357, hR358, hE359, hk360⟩ := LR.ok h348 (by omega)
                  unfold EMul at hE359
                  obtain ⟨q361, c362, ⟨w363, w364, w365, w366, w367⟩, E369, f368⟩ := h347 (by omega)
                  have e370 := RS.uq w363 hR358
                  subst e370
                  have rg371 := RS.rg hR358
                  unfold EMul at E369
                  have em372 : EM M M335 (c34 ++ c362) := EM.app (by omega) em333 w364
                  refine vc_aload_n dX4_readSum_70 rfl ?_
                  refine vc_iload dX4_readSum_71 rfl ?_
                  refine vc_cVI dX4_readSum_73 (sfX4_emitF (M := M335) hB349.1  g n q356 hR358 20000 (by omega)) rfl okX4_emit viX4_emit lkX4_176 (s_22 hB349.1.1) cl_4 rfl (by show 0 < 13 + 3 * nf; omega) ⟨rfl, rfl⟩ (Nat.le_of_ble_eq_true rfl) (Nat.le_of_ble_eq_true rfl) (Nat.le_of_ble_eq_true rfl) ?_
                  rintro x373 M374 ⟨hB375, kp376, kp377, kp378, kp379, kp380, h381, h382, h383, h384, h385, h386, h387⟩
                  have hB388 : BF fQ M M374 := BF.go hB349 hB375
                  have kp389 : mI M374 24 = mI M 24 := kp_go kp350 kp376
                  have kp390 : mI M374 25 = mI M 25 := kp_go kp351 kp377
                  have kp391 : mI M374 26 = mI M 26 := kp_go kp352 kp378
                  have kp392 : mI M374 27 = mI M 27 := kp_go kp353 kp379
                  have kp393 : mI M374 28 = mI M 28 := kp_go kp354 kp380
                  have em394 : EM M M374 ((c34 ++ c362) ++ [(opO (tk g n q26), (0 : Int))]) := EM.app (by omega) em372 (h386 (opO (tk g n q26), (0 : Int)) (by rw [show tk g n q26 = -257 by omega]; rfl))
                  refine vc_if_eq dX4_readSum_76 (fun h395 => by exfalso; omega) (fun h395 => ?_)
                  refine vc_iconst dX4_readSum_79 rfl ?_
                  refine vc_goto dX4_readSum_80 ?_
                  refine vc_istore_n dX4_readSum_84 (Nat.le_of_ble_eq_true rfl) rfl (show _ = [some (aR 22), some (aI d), some (aI 1), some (aI v3), some (aI 20000)] from rfl) ?_
                  have hnext : LI g n w sk p (EMul g n) M374 1 (v3 + 1) := Or.inl ⟨rfl, q356, by omega, h387, (by unfold EMul; omega), fun o r => kt311 o (hk360 o (by rw [hd]; exact r))⟩
                  rw [List.append_assoc] at em394
                  have hnext3 : ((1) : Int) = 1 → v3 + 1 ≤ mI M374 22 9 ∧ CO2 g n w M M374 p (3 * (8 - d) + 3) 1 (EMul g n) := fun _ => ⟨by omega, q356, c34 ++ (c362 ++ [(opO (tk g n q26), 0)]), ⟨h387, em394, by omega, H1.two w38 w366 (by rcases (show tk g n q26 = -257 ∨ tk g n q26 = -255 by omega) with z | z <;> rw [z] <;> decide) 0 (by omega), rgO.app w39 (rgO.app w367 (rgO.one (by rcases (show tk g n q26 = -257 ∨ tk g n q26 = -255 by omega) with z | z <;> rw [z] <;> decide)))⟩, (by unfold EMul; omega), add_fw f40 (show tk g n q26 = -257 ∨ tk g n q26 = -255 by omega) rfl f368 (by omega)⟩
                  refine vc_iincE dX4_readSum_85 rfl (by omega) (by omega) (Nat.le_of_ble_eq_true rfl) rfl (show _ = [some (aR 22), some (aI d), some (aI 1), some (aI (v3 + 1)), some (aI 20000)] from rfl) ?_
                  refine vc_goto dX4_readSum_88 ?_
                  refine vc_less [some (aR 22), some (aI d), some (aI 1), some (aI (v3 + 1)), none] (lessL_keep (lessL_keep (lessL_keep (lessL_keep (lessL_drop (lessL_nil)))))) ?_
                  exact ih8 M374 1 (v3 + 1) hB388 kp389 kp390 kp391 kp392 kp393 (by omega) (by omega) (by omega) (by omega) (by first | exact hfirst | exact hnext) (by omega) (by omega) (by omega) (by first | exact hfirst3 | exact hnext3) (by omega)
  exact lp8 _ M4 x3 0 hB18 kp19 kp20 kp21 kp22 kp23 (by omega) (by omega) (by omega) (by omega) (by first | exact hfirst | exact hnext) (by omega) (by omega) (by omega) (by first | exact hfirst3 | exact hnext3) (Nat.lt_succ_self _)

theorem ld_all {l : Launch} (nf : Nat) : LdO l nf ∧ LdS l nf := by
  induction nf with
  | zero =>
    constructor
    · intro M hB d _ _ g n p hR w sk hl hw _ h
      exact absurd h (Nat.not_lt_zero _)
    · intro M hB d _ _ g n p hR w sk hl hd hw _ h
      exact absurd h (Nat.not_lt_zero _)
  | succ nf ih => exact ⟨ld_one ih.2 ih.1, ld_sum (ld_prod (ld_one ih.2 ih.1))⟩
