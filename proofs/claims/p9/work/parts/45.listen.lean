/-! LISTEN, of both (written by wip/whole/p45.py) -/
theorem pow_bd {x : Int} (h0 : 0 ≤ x) (h1 : x ≤ 100) : ∀ k : Nat, 0 ≤ x ^ k ∧ x ^ k ≤ 100 ^ k
  | 0 => by simp
  | k + 1 => by
    obtain ⟨a, b⟩ := pow_bd h0 h1 k
    rw [Int.pow_succ, Int.pow_succ]
    exact ⟨Int.mul_nonneg a h0, Int.mul_le_mul b h1 h0 (Int.le_trans a b)⟩
theorem pow100 {k : Nat} (h : k ≤ 6) : (100 : Int) ^ k ≤ 1000000000000 := by
  match k, h with
  | 0, _ => decide
  | 1, _ => decide
  | 2, _ => decide
  | 3, _ => decide
  | 4, _ => decide
  | 5, _ => decide
  | 6, _ => decide
theorem powW_eq {x : Int} (h0 : 0 ≤ x) (h1 : x ≤ 100) : ∀ k : Nat, k ≤ 6 → powW x k = x ^ k
  | 0, _ => by simp [powW]
  | k + 1, h => by
    have e := powW_eq h0 h1 k (by omega)
    have b1 := pow_bd h0 h1 (k + 1)
    have b2 := pow100 h
    show wL (powW x k * x) = _
    rw [e, ← Int.pow_succ]
    show wL (x ^ (k + 1)) = x ^ (k + 1)
    exact wL_id (by omega) (by omega)
theorem mul_bd {u v : Int} (h1 : 0 ≤ u) (h2 : u ≤ 10) (h3 : 0 ≤ v) (h4 : v ≤ 10) : 0 ≤ u * v ∧ u * v ≤ 100 := ⟨Int.mul_nonneg h1 h3, Int.le_trans (Int.mul_le_mul h2 h4 h3 (by decide)) (by decide)⟩
theorem prod_bd {p q r : Int} (hp : 0 ≤ p ∧ p ≤ 100) (hq : 0 ≤ q ∧ q ≤ 100) (hr : 0 ≤ r ∧ r ≤ 100) (i j k : Nat) (h : i + j + k ≤ 6) : (0 ≤ p ^ i * q ^ j ∧ p ^ i * q ^ j ≤ 1000000000000) ∧ 0 ≤ p ^ i * q ^ j * r ^ k ∧ p ^ i * q ^ j * r ^ k ≤ 1000000000000 := by
  obtain ⟨a1, a2⟩ := pow_bd hp.1 hp.2 i
  obtain ⟨b1, b2⟩ := pow_bd hq.1 hq.2 j
  obtain ⟨c1, c2⟩ := pow_bd hr.1 hr.2 k
  have z : (0 : Int) ≤ 100 ^ i := Int.le_trans a1 a2
  have z2 : (0 : Int) ≤ 100 ^ i * 100 ^ j := Int.mul_nonneg z (Int.le_trans b1 b2)
  have d : p ^ i * q ^ j ≤ 100 ^ i * 100 ^ j := Int.mul_le_mul a2 b2 b1 z
  have d1 : 0 ≤ p ^ i * q ^ j := Int.mul_nonneg a1 b1
  have f : p ^ i * q ^ j * r ^ k ≤ 100 ^ i * 100 ^ j * 100 ^ k := Int.mul_le_mul d c2 c1 z2
  have f1 : 0 ≤ p ^ i * q ^ j * r ^ k := Int.mul_nonneg d1 c1
  rw [← Int.pow_add] at d f
  rw [← Int.pow_add] at f
  have g1 := pow100 (k := i + j) (by omega)
  have g2 := pow100 (k := i + j + k) h
  exact ⟨⟨d1, by omega⟩, f1, by omega⟩
def keptZ (n a b both one : Int) : Int := (100 - (10 - a) * (10 - a)) ^ both.toNat * (100 - (10 - a) * (10 - b)) ^ one.toNat * (100 - (10 - b) * (10 - b)) ^ (n - both - one).toNat
def lsI (n m a b both : Int) : Nat → Int → Int → Int
  | 0, _, best => best
  | k + 1, one, best => if one ≤ n - both ∧ one ≤ 2 * (m - both) then lsI n m a b both k (one + 1) (maxZ best (keptZ n a b both one)) else best
def lsO (n m a b : Int) : Nat → Int → Int → Int
  | 0, _, best => best
  | k + 1, both, best => if both ≤ n ∧ both ≤ m then lsO n m a b k (both + 1) (lsI n m a b both 8 0 best) else best
def okLs (n m a b : Int) : Prop := 1 ≤ n ∧ n ≤ 6 ∧ 0 ≤ m ∧ m ≤ 6 ∧ 0 ≤ a ∧ a ≤ 10 ∧ 0 ≤ b ∧ b ≤ 10
theorem kept_bd {n m a b both one : Int} (h : okLs n m a b) (h1 : 0 ≤ both) (h2 : 0 ≤ one) (h3 : one ≤ n - both) : (0 ≤ (100 - (10 - a) * (10 - a)) ^ both.toNat * (100 - (10 - a) * (10 - b)) ^ one.toNat ∧ (100 - (10 - a) * (10 - a)) ^ both.toNat * (100 - (10 - a) * (10 - b)) ^ one.toNat ≤ 1000000000000) ∧ 0 ≤ (100 - (10 - a) * (10 - a)) ^ both.toNat * (100 - (10 - a) * (10 - b)) ^ one.toNat * (100 - (10 - b) * (10 - b)) ^ (n - both - one).toNat ∧ (100 - (10 - a) * (10 - a)) ^ both.toNat * (100 - (10 - a) * (10 - b)) ^ one.toNat * (100 - (10 - b) * (10 - b)) ^ (n - both - one).toNat ≤ 1000000000000 := by
  obtain ⟨a1, a2, a3, a4, a5, a6, a7, a8⟩ := h
  have m1 := mul_bd (u := 10 - a) (v := 10 - a) (by omega) (by omega) (by omega) (by omega)
  have m2 := mul_bd (u := 10 - a) (v := 10 - b) (by omega) (by omega) (by omega) (by omega)
  have m3 := mul_bd (u := 10 - b) (v := 10 - b) (by omega) (by omega) (by omega) (by omega)
  exact prod_bd ⟨by omega, by omega⟩ ⟨by omega, by omega⟩ ⟨by omega, by omega⟩ _ _ _ (by omega)
theorem lsI_bd {n m a b both : Int} (h : okLs n m a b) (h1 : 0 ≤ both) : ∀ (k : Nat) (one best : Int), 0 ≤ one → 0 ≤ best → best ≤ 1000000000000 → 0 ≤ lsI n m a b both k one best ∧ lsI n m a b both k one best ≤ 1000000000000
  | 0, one, best, _, h3, h4 => ⟨h3, h4⟩
  | k + 1, one, best, h2, h3, h4 => by
    unfold lsI
    split
    · rename_i hc
      have hk := (kept_bd h h1 h2 hc.1).2
      refine lsI_bd h h1 k (one + 1) _ (by omega) ?_ ?_
      · unfold maxZ
        split
        · exact hk.1
        · exact h3
      · unfold maxZ
        split
        · exact hk.2
        · exact h4
    · exact ⟨h3, h4⟩
theorem lsO_bd {n m a b : Int} (h : okLs n m a b) : ∀ (k : Nat) (both best : Int), 0 ≤ both → 0 ≤ best → best ≤ 1000000000000 → 0 ≤ lsO n m a b k both best ∧ lsO n m a b k both best ≤ 1000000000000
  | 0, both, best, _, h3, h4 => ⟨h3, h4⟩
  | k + 1, both, best, h2, h3, h4 => by
    unfold lsO
    split
    · have hk := lsI_bd h h2 8 0 best (by decide) h3 h4
      exact lsO_bd h k (both + 1) _ (by omega) hk.1 hk.2
    · exact ⟨h3, h4⟩
/-- what listen answers -/
def fLis (n m a b low : Int) : Int := if 1 ≤ n ∧ n ≤ 6 ∧ 0 ≤ m ∧ m ≤ 6 ∧ 0 ≤ a ∧ a ≤ 10 ∧ 0 ≤ b ∧ b ≤ 10 then lowT (lsO n m a b 8 0 0).toNat ((100 : Int) ^ n.toNat).toNat low else -1
theorem qX11_termsZ {l : Launch} {M : Mem} (u w low : Int) (hu : 0 ≤ u) (hw : 0 ≤ w) (hw2 : w < 9223372036854775808) : Fn l mdX11_inLowestTerms [aL u, aL w, aI low] M (some (aL (lowT u.toNat w.toNat low))) M := by
  have h := qX11_inLowestTerms (l := l) (M := M) u.toNat w.toNat (by omega) low
  rw [Int.toNat_of_nonneg hu, Int.toNat_of_nonneg hw] at h
  exact h
theorem qX12_partZ {l : Launch} {M : Mem} (u w low : Int) (hu : 0 ≤ u) (hw : 0 ≤ w) : Fn l mdX12_part [aL u, aL w, aI low] M (some (aL (lowT u.toNat w.toNat low))) M := by
  have h := qX12_part (l := l) (M := M) u.toNat w.toNat low
  rw [Int.toNat_of_nonneg hu, Int.toNat_of_nonneg hw] at h
  exact h
theorem slip_iff (d : Int) : fX11_isSlip d = 0 ↔ ¬ (0 ≤ d ∧ d ≤ 10) := by unfold fX11_isSlip; split; (constructor <;> intro _ <;> first | rfl | omega); split <;> (constructor <;> intro _ <;> first | rfl | omega)
theorem qX11_powerE {l : Launch} {M : Mem} (b e : Int) (h0 : 0 ≤ b) (h1 : b ≤ 100) (h2 : e ≤ 6) : Fn l mdX11_power [aL b, aI e] M (some (aL (b ^ e.toNat))) M := by
  have h := qX11_power (l := l) (M := M) b e (by omega)
  rw [powW_eq h0 h1 e.toNat (by omega)] at h
  exact h
theorem qX12_powerE {l : Launch} {M : Mem} (b e : Int) (h0 : 0 ≤ b) (h1 : b ≤ 100) (h2 : e ≤ 6) : Fn l mdX12_power [aL b, aI e] M (some (aL (b ^ e.toNat))) M := by
  have h := qX12_power (l := l) (M := M) b e (by omega)
  rw [powW_eq h0 h1 e.toNat (by omega)] at h
  exact h
set_option maxRecDepth 4000 in
theorem qX11_listen {l : Launch} {M : Mem} (hS : St M) (n m a b low : Int) : Fn l mdX11_listen [aR 0, aI n, aI m, aI a, aI b, aI low] M (some (aL (fLis n m a b low))) M := by
  have main : okLs n m a b → VC l mdX11_listen 46 [some (aR 0), some (aI n), some (aI m), some (aI a), some (aI b), some (aI low), some (aL 0), none, some (aI 0), none, none, none] [] M 0 0 (fun r M2 => r = some (aL (fLis n m a b low)) ∧ M2 = M) := by
    intro hok
    obtain ⟨a1, a2, a3, a4, a5, a6, a7, a8⟩ := id hok
    have m1 := mul_bd (u := 10 - a) (v := 10 - a) (by omega) (by omega) (by omega) (by omega)
    have m2 := mul_bd (u := 10 - a) (v := 10 - b) (by omega) (by omega) (by omega) (by omega)
    have m3 := mul_bd (u := 10 - b) (v := 10 - b) (by omega) (by omega) (by omega) (by omega)
    have fin : ∀ best : Int, best = lsO n m a b 8 0 0 → 0 ≤ best → best ≤ 1000000000000 → VC l mdX11_listen 168 [some (aR 0), some (aI n), some (aI m), some (aI a), some (aI b), some (aI low), some (aL best), none, none, none, none, none] [] M 0 0 (fun r M2 => r = some (aL (fLis n m a b low)) ∧ M2 = M) := by
      intro best eb hb1 hb2
      have p1 := pow_bd (x := 100) (by decide) (by decide) n.toNat
      have p2 := pow100 (k := n.toNat) (by omega)
      refine vc_lload dX11_listen_168 rfl ?_
      refine vc_ldc2 dX11_listen_170 rfl klX11_320 ?_
      refine vc_iload_n dX11_listen_173 rfl ?_
      refine vc_callSF dX11_listen_174 (qX11_powerE (M := M) 100 n (by omega) (by omega) (by omega)) rfl okX11_power stX11_power lkX11_310 rfl (Nat.le_of_ble_eq_true rfl) ⟨rfl, rfl⟩ (Nat.le_of_ble_eq_true rfl) (Nat.le_of_ble_eq_true rfl) (Nat.le_of_ble_eq_true rfl) ?_
      refine vc_iload dX11_listen_177 rfl ?_
      refine vc_callSF dX11_listen_179 (qX11_termsZ (M := M) best (100 ^ n.toNat) low (by omega) (by omega) (by omega)) rfl okX11_inLowestTerms stX11_inLowestTerms lkX11_252 rfl (Nat.le_of_ble_eq_true rfl) ⟨rfl, rfl⟩ (Nat.le_of_ble_eq_true rfl) (Nat.le_of_ble_eq_true rfl) (Nat.le_of_ble_eq_true rfl) ?_
      refine vc_lret dX11_listen_182 rfl (Nat.le_of_ble_eq_true rfl) (Nat.le_of_ble_eq_true rfl) ?_
      refine ⟨?_, rfl⟩
      rw [eb, fLis, if_pos ⟨a1, a2, a3, a4, a5, a6, a7, a8⟩]
    have inner : ∀ (both : Int), 0 ≤ both → both ≤ n → both ≤ m → ∀ (k : Nat) (one best : Int), 0 ≤ one → one + k = 8 → 0 ≤ best → best ≤ 1000000000000 → VC l mdX11_listen 162 [some (aR 0), some (aI n), some (aI m), some (aI a), some (aI b), some (aI low), some (aL (lsI n m a b both k one best)), none, some (aI both), none, none, none] [] M 0 0 (fun r M2 => r = some (aL (fLis n m a b low)) ∧ M2 = M) → VC l mdX11_listen 61 [some (aR 0), some (aI n), some (aI m), some (aI a), some (aI b), some (aI low), some (aL best), none, some (aI both), some (aI one), none, none] [] M 0 0 (fun r M2 => r = some (aL (fLis n m a b low)) ∧ M2 = M) := by
      intro both hb0 hbn hbm k
      induction k with
      | zero =>
        intro one best g1 g2 g3 g4 kk
        refine vc_iload dX11_listen_61 rfl ?_
        refine vc_iload_n dX11_listen_63 rfl ?_
        refine vc_iload dX11_listen_64 rfl ?_
        refine vc_isubE dX11_listen_66 (by omega) (by omega) ?_
        refine vc_icmp_gt dX11_listen_67 (fun h1 => ?_) (fun h1 => by exfalso; omega)
        refine vc_less [some (aR 0), some (aI n), some (aI m), some (aI a), some (aI b), some (aI low), some (aL best), none, some (aI both), none, none, none] (lessL_keep (lessL_keep (lessL_keep (lessL_keep (lessL_keep (lessL_keep (lessL_keep (lessL_drop (lessL_keep (lessL_drop (lessL_drop (lessL_drop lessL_nil)))))))))))) ?_
        exact kk
      | succ k ih =>
        intro one best g1 g2 g3 g4 kk
        refine vc_iload dX11_listen_61 rfl ?_
        refine vc_iload_n dX11_listen_63 rfl ?_
        refine vc_iload dX11_listen_64 rfl ?_
        refine vc_isubE dX11_listen_66 (by omega) (by omega) ?_
        refine vc_icmp_gt dX11_listen_67 (fun h1 => ?_) (fun h1 => ?_)
        · refine vc_less [some (aR 0), some (aI n), some (aI m), some (aI a), some (aI b), some (aI low), some (aL best), none, some (aI both), none, none, none] (lessL_keep (lessL_keep (lessL_keep (lessL_keep (lessL_keep (lessL_keep (lessL_keep (lessL_drop (lessL_keep (lessL_drop (lessL_drop (lessL_drop lessL_nil)))))))))))) ?_
          have e0 : lsI n m a b both (k + 1) one best = best := by unfold lsI; rw [if_neg (by omega)]
          rw [e0] at kk
          exact kk
        · refine vc_iload dX11_listen_70 rfl ?_
          refine vc_iconst dX11_listen_72 rfl ?_
          refine vc_iload_n dX11_listen_73 rfl ?_
          refine vc_iload dX11_listen_74 rfl ?_
          refine vc_isubE dX11_listen_76 (by omega) (by omega) ?_
          refine vc_imulE dX11_listen_77 (by omega) (by omega) ?_
          refine vc_icmp_gt dX11_listen_78 (fun h2 => ?_) (fun h2 => ?_)
          · refine vc_less [some (aR 0), some (aI n), some (aI m), some (aI a), some (aI b), some (aI low), some (aL best), none, some (aI both), none, none, none] (lessL_keep (lessL_keep (lessL_keep (lessL_keep (lessL_keep (lessL_keep (lessL_keep (lessL_drop (lessL_keep (lessL_drop (lessL_drop (lessL_drop lessL_nil)))))))))))) ?_
            have e0 : lsI n m a b both (k + 1) one best = best := by unfold lsI; rw [if_neg (by omega)]
            rw [e0] at kk
            exact kk
          · refine vc_bipush dX11_listen_81 rfl ?_
            refine vc_bipush dX11_listen_83 rfl ?_
            refine vc_iload_n dX11_listen_85 rfl ?_
            refine vc_isubE dX11_listen_86 (by omega) (by omega) ?_
            refine vc_bipush dX11_listen_87 rfl ?_
            refine vc_iload_n dX11_listen_89 rfl ?_
            refine vc_isubE dX11_listen_90 (by omega) (by omega) ?_
            refine vc_imulE dX11_listen_91 (by omega) (by omega) ?_
            refine vc_isubE dX11_listen_92 (by omega) (by omega) ?_
            refine vc_i2l dX11_listen_93 ?_
            refine vc_iload dX11_listen_94 rfl ?_
            have hkb := kept_bd hok hb0 g1 (show one ≤ n - both by omega)
            refine vc_callSF dX11_listen_96 (qX11_powerE (M := M) (100 - ((10 - a) * (10 - a))) both (by omega) (by omega) (by omega)) rfl okX11_power stX11_power lkX11_310 rfl (Nat.le_of_ble_eq_true rfl) ⟨rfl, rfl⟩ (Nat.le_of_ble_eq_true rfl) (Nat.le_of_ble_eq_true rfl) (Nat.le_of_ble_eq_true rfl) ?_
            refine vc_bipush dX11_listen_99 rfl ?_
            refine vc_bipush dX11_listen_101 rfl ?_
            refine vc_iload_n dX11_listen_103 rfl ?_
            refine vc_isubE dX11_listen_104 (by omega) (by omega) ?_
            refine vc_bipush dX11_listen_105 rfl ?_
            refine vc_iload dX11_listen_107 rfl ?_
            refine vc_isubE dX11_listen_109 (by omega) (by omega) ?_
            refine vc_imulE dX11_listen_110 (by omega) (by omega) ?_
            refine vc_isubE dX11_listen_111 (by omega) (by omega) ?_
            refine vc_i2l dX11_listen_112 ?_
            refine vc_iload dX11_listen_113 rfl ?_
            refine vc_callSF dX11_listen_115 (qX11_powerE (M := M) (100 - ((10 - a) * (10 - b))) one (by omega) (by omega) (by omega)) rfl okX11_power stX11_power lkX11_310 rfl (Nat.le_of_ble_eq_true rfl) ⟨rfl, rfl⟩ (Nat.le_of_ble_eq_true rfl) (Nat.le_of_ble_eq_true rfl) (Nat.le_of_ble_eq_true rfl) ?_
            refine vc_lmulE dX11_listen_118 (by omega) (by omega) ?_
            refine vc_bipush dX11_listen_119 rfl ?_
            refine vc_bipush dX11_listen_121 rfl ?_
            refine vc_iload dX11_listen_123 rfl ?_
            refine vc_isubE dX11_listen_125 (by omega) (by omega) ?_
            refine vc_bipush dX11_listen_126 rfl ?_
            refine vc_iload dX11_listen_128 rfl ?_
            refine vc_isubE dX11_listen_130 (by omega) (by omega) ?_
            refine vc_imulE dX11_listen_131 (by omega) (by omega) ?_
            refine vc_isubE dX11_listen_132 (by omega) (by omega) ?_
            refine vc_i2l dX11_listen_133 ?_
            refine vc_iload_n dX11_listen_134 rfl ?_
            refine vc_iload dX11_listen_135 rfl ?_
            refine vc_isubE dX11_listen_137 (by omega) (by omega) ?_
            refine vc_iload dX11_listen_138 rfl ?_
            refine vc_isubE dX11_listen_140 (by omega) (by omega) ?_
            refine vc_callSF dX11_listen_141 (qX11_powerE (M := M) (100 - ((10 - b) * (10 - b))) ((n - both) - one) (by omega) (by omega) (by omega)) rfl okX11_power stX11_power lkX11_310 rfl (Nat.le_of_ble_eq_true rfl) ⟨rfl, rfl⟩ (Nat.le_of_ble_eq_true rfl) (Nat.le_of_ble_eq_true rfl) (Nat.le_of_ble_eq_true rfl) ?_
            refine vc_lmulE dX11_listen_144 (by omega) (by omega) ?_
            refine vc_lstore dX11_listen_145 (by decide) rfl rfl (show _ = [some (aR 0), some (aI n), some (aI m), some (aI a), some (aI b), some (aI low), some (aL best), none, some (aI both), some (aI one), some (aL ((((100 - ((10 - a) * (10 - a))) ^ both.toNat) * ((100 - ((10 - a) * (10 - b))) ^ one.toNat)) * ((100 - ((10 - b) * (10 - b))) ^ ((n - both) - one).toNat))), none] from rfl) ?_
            refine vc_lload dX11_listen_147 rfl ?_
            refine vc_lload dX11_listen_149 rfl ?_
            refine vc_mmaxL dX11_listen_151 lkX11_314 (Nat.le_of_ble_eq_true rfl) (Nat.le_of_ble_eq_true rfl) (Nat.le_of_ble_eq_true rfl) ?_
            refine vc_lstore dX11_listen_154 (by decide) rfl rfl (show _ = [some (aR 0), some (aI n), some (aI m), some (aI a), some (aI b), some (aI low), some (aL (maxZ best ((((100 - ((10 - a) * (10 - a))) ^ both.toNat) * ((100 - ((10 - a) * (10 - b))) ^ one.toNat)) * ((100 - ((10 - b) * (10 - b))) ^ ((n - both) - one).toNat)))), none, some (aI both), some (aI one), some (aL ((((100 - ((10 - a) * (10 - a))) ^ both.toNat) * ((100 - ((10 - a) * (10 - b))) ^ one.toNat)) * ((100 - ((10 - b) * (10 - b))) ^ ((n - both) - one).toNat))), none] from rfl) ?_
            refine vc_iincE dX11_listen_156 rfl (by omega) (by omega) (by decide) rfl (show _ = [some (aR 0), some (aI n), some (aI m), some (aI a), some (aI b), some (aI low), some (aL (maxZ best ((((100 - ((10 - a) * (10 - a))) ^ both.toNat) * ((100 - ((10 - a) * (10 - b))) ^ one.toNat)) * ((100 - ((10 - b) * (10 - b))) ^ ((n - both) - one).toNat)))), none, some (aI both), some (aI (one + 1)), some (aL ((((100 - ((10 - a) * (10 - a))) ^ both.toNat) * ((100 - ((10 - a) * (10 - b))) ^ one.toNat)) * ((100 - ((10 - b) * (10 - b))) ^ ((n - both) - one).toNat))), none] from rfl) ?_
            refine vc_goto dX11_listen_159 ?_
            refine vc_less [some (aR 0), some (aI n), some (aI m), some (aI a), some (aI b), some (aI low), some (aL (maxZ best ((((100 - ((10 - a) * (10 - a))) ^ both.toNat) * ((100 - ((10 - a) * (10 - b))) ^ one.toNat)) * ((100 - ((10 - b) * (10 - b))) ^ ((n - both) - one).toNat)))), none, some (aI both), some (aI (one + 1)), none, none] (lessL_keep (lessL_keep (lessL_keep (lessL_keep (lessL_keep (lessL_keep (lessL_keep (lessL_drop (lessL_keep (lessL_keep (lessL_drop (lessL_drop lessL_nil)))))))))))) ?_
            have hc : one ≤ n - both ∧ one ≤ 2 * (m - both) := ⟨by omega, by omega⟩
            have hk := (kept_bd hok hb0 g1 hc.1).2
            unfold lsI at kk
            rw [if_pos hc] at kk
            refine ih (one + 1) (maxZ best (keptZ n a b both one)) (by omega) (by omega) ?_ ?_ kk
            · unfold maxZ; split
              · exact hk.1
              · exact g3
            · unfold maxZ; split
              · exact hk.2
              · exact g4
    have outer : ∀ (k : Nat) (both best : Int), 0 ≤ both → both + k = 8 → 0 ≤ best → best ≤ 1000000000000 → lsO n m a b k both best = lsO n m a b 8 0 0 → VC l mdX11_listen 46 [some (aR 0), some (aI n), some (aI m), some (aI a), some (aI b), some (aI low), some (aL best), none, some (aI both), none, none, none] [] M 0 0 (fun r M2 => r = some (aL (fLis n m a b low)) ∧ M2 = M) := by
      intro k
      induction k with
      | zero =>
        intro both best g1 g2 g3 g4 he
        refine vc_iload dX11_listen_46 rfl ?_
        refine vc_iload_n dX11_listen_48 rfl ?_
        refine vc_icmp_gt dX11_listen_49 (fun h1 => ?_) (fun h1 => by exfalso; omega)
        refine vc_less [some (aR 0), some (aI n), some (aI m), some (aI a), some (aI b), some (aI low), some (aL best), none, none, none, none, none] (lessL_keep (lessL_keep (lessL_keep (lessL_keep (lessL_keep (lessL_keep (lessL_keep (lessL_drop (lessL_drop (lessL_drop (lessL_drop (lessL_drop lessL_nil)))))))))))) ?_
        exact fin best he g3 g4
      | succ k ih =>
        intro both best g1 g2 g3 g4 he
        refine vc_iload dX11_listen_46 rfl ?_
        refine vc_iload_n dX11_listen_48 rfl ?_
        refine vc_icmp_gt dX11_listen_49 (fun h1 => ?_) (fun h1 => ?_)
        · refine vc_less [some (aR 0), some (aI n), some (aI m), some (aI a), some (aI b), some (aI low), some (aL best), none, none, none, none, none] (lessL_keep (lessL_keep (lessL_keep (lessL_keep (lessL_keep (lessL_keep (lessL_keep (lessL_drop (lessL_drop (lessL_drop (lessL_drop (lessL_drop lessL_nil)))))))))))) ?_
          have e0 : lsO n m a b (k + 1) both best = best := by unfold lsO; rw [if_neg (by omega)]
          exact fin best (by rw [← he, e0]) g3 g4
        · refine vc_iload dX11_listen_52 rfl ?_
          refine vc_iload_n dX11_listen_54 rfl ?_
          refine vc_icmp_gt dX11_listen_55 (fun h2 => ?_) (fun h2 => ?_)
          · refine vc_less [some (aR 0), some (aI n), some (aI m), some (aI a), some (aI b), some (aI low), some (aL best), none, none, none, none, none] (lessL_keep (lessL_keep (lessL_keep (lessL_keep (lessL_keep (lessL_keep (lessL_keep (lessL_drop (lessL_drop (lessL_drop (lessL_drop (lessL_drop lessL_nil)))))))))))) ?_
            have e0 : lsO n m a b (k + 1) both best = best := by unfold lsO; rw [if_neg (by omega)]
            exact fin best (by rw [← he, e0]) g3 g4
          · refine vc_iconst dX11_listen_58 rfl ?_
            refine vc_istore dX11_listen_59 (by decide) rfl (show _ = [some (aR 0), some (aI n), some (aI m), some (aI a), some (aI b), some (aI low), some (aL best), none, some (aI both), some (aI 0), none, none] from rfl) ?_
            have hc : both ≤ n ∧ both ≤ m := ⟨by omega, by omega⟩
            have hk := lsI_bd hok g1 8 0 best (by decide) g3 g4
            unfold lsO at he
            rw [if_pos hc] at he
            refine inner both g1 hc.1 hc.2 8 0 best (by decide) (by decide) g3 g4 ?_
            refine vc_iincE dX11_listen_162 rfl (by omega) (by omega) (by decide) rfl (show _ = [some (aR 0), some (aI n), some (aI m), some (aI a), some (aI b), some (aI low), some (aL (lsI n m a b both 8 0 best)), none, some (aI (both + 1)), none, none, none] from rfl) ?_
            refine vc_goto dX11_listen_165 ?_
            exact ih (both + 1) _ (by omega) (by omega) hk.1 hk.2 (he.trans (by rfl))
    exact outer 8 0 0 (by decide) (by decide) (by decide) (by decide) rfl
  refine Call.of [some (aR 0), some (aI n), some (aI m), some (aI a), some (aI b), some (aI low), none, none, none, none, none, none] rfl (Nat.le_of_ble_eq_true rfl) rfl ?_
  refine vc_iload_n dX11_listen_0 rfl ?_
  refine vc_iconst dX11_listen_1 rfl ?_
  refine vc_icmp_lt dX11_listen_2 (fun h1 => ?_) (fun h1 => ?_)
  · refine vc_ldc2 dX11_listen_36 rfl klX11_239 ?_
    refine vc_lret dX11_listen_39 rfl (Nat.le_of_ble_eq_true rfl) (Nat.le_of_ble_eq_true rfl) ?_
    refine ⟨?_, rfl⟩
    rw [fLis, if_neg (by omega)]
  · refine vc_iload_n dX11_listen_5 rfl ?_
    refine vc_bipush dX11_listen_6 rfl ?_
    refine vc_icmp_gt dX11_listen_8 (fun h2 => ?_) (fun h2 => ?_)
    · refine vc_ldc2 dX11_listen_36 rfl klX11_239 ?_
      refine vc_lret dX11_listen_39 rfl (Nat.le_of_ble_eq_true rfl) (Nat.le_of_ble_eq_true rfl) ?_
      refine ⟨?_, rfl⟩
      rw [fLis, if_neg (by omega)]
    · refine vc_iload_n dX11_listen_11 rfl ?_
      refine vc_if_lt dX11_listen_12 (fun h3 => ?_) (fun h3 => ?_)
      · refine vc_ldc2 dX11_listen_36 rfl klX11_239 ?_
        refine vc_lret dX11_listen_39 rfl (Nat.le_of_ble_eq_true rfl) (Nat.le_of_ble_eq_true rfl) ?_
        refine ⟨?_, rfl⟩
        rw [fLis, if_neg (by omega)]
      · refine vc_iload_n dX11_listen_15 rfl ?_
        refine vc_bipush dX11_listen_16 rfl ?_
        refine vc_icmp_gt dX11_listen_18 (fun h4 => ?_) (fun h4 => ?_)
        · refine vc_ldc2 dX11_listen_36 rfl klX11_239 ?_
          refine vc_lret dX11_listen_39 rfl (Nat.le_of_ble_eq_true rfl) (Nat.le_of_ble_eq_true rfl) ?_
          refine ⟨?_, rfl⟩
          rw [fLis, if_neg (by omega)]
        · refine vc_iload_n dX11_listen_21 rfl ?_
          refine vc_callSF dX11_listen_22 (qX11_isSlip (M := M) a) rfl okX11_isSlip stX11_isSlip lkX11_307 rfl (Nat.le_of_ble_eq_true rfl) ⟨rfl, rfl⟩ (Nat.le_of_ble_eq_true rfl) (Nat.le_of_ble_eq_true rfl) (Nat.le_of_ble_eq_true rfl) ?_
          refine vc_if_eq dX11_listen_25 (fun h5 => ?_) (fun h5 => ?_)
          · refine vc_ldc2 dX11_listen_36 rfl klX11_239 ?_
            refine vc_lret dX11_listen_39 rfl (Nat.le_of_ble_eq_true rfl) (Nat.le_of_ble_eq_true rfl) ?_
            refine ⟨?_, rfl⟩
            simp only [slip_iff] at *
            rw [fLis, if_neg (by omega)]
          · refine vc_iload dX11_listen_28 rfl ?_
            refine vc_callSF dX11_listen_30 (qX11_isSlip (M := M) b) rfl okX11_isSlip stX11_isSlip lkX11_307 rfl (Nat.le_of_ble_eq_true rfl) ⟨rfl, rfl⟩ (Nat.le_of_ble_eq_true rfl) (Nat.le_of_ble_eq_true rfl) (Nat.le_of_ble_eq_true rfl) ?_
            refine vc_if_ne dX11_listen_33 (fun h6 => ?_) (fun h6 => ?_)
            · refine vc_lconst dX11_listen_40 ?_
              refine vc_topL 0 rfl ?_
              refine vc_lstore dX11_listen_41 (by decide) rfl rfl (show _ = [some (aR 0), some (aI n), some (aI m), some (aI a), some (aI b), some (aI low), some (aL 0), none, none, none, none, none] from rfl) ?_
              refine vc_iconst dX11_listen_43 rfl ?_
              refine vc_istore dX11_listen_44 (by decide) rfl (show _ = [some (aR 0), some (aI n), some (aI m), some (aI a), some (aI b), some (aI low), some (aL 0), none, some (aI 0), none, none, none] from rfl) ?_
              simp only [slip_iff] at *
              exact main ⟨by omega, by omega, by omega, by omega, by omega, by omega, by omega, by omega⟩
            · refine vc_ldc2 dX11_listen_36 rfl klX11_239 ?_
              refine vc_lret dX11_listen_39 rfl (Nat.le_of_ble_eq_true rfl) (Nat.le_of_ble_eq_true rfl) ?_
              refine ⟨?_, rfl⟩
              simp only [slip_iff] at *
              rw [fLis, if_neg (by omega)]
set_option maxRecDepth 4000 in
theorem qX12_listen {l : Launch} {M : Mem} (hS : St M) (n m a b low : Int) : Fn l mdX12_listen [aR 54, aI n, aI m, aI a, aI b, aI low] M (some (aL (fLis n m a b low))) M := by
  have main : okLs n m a b → VC l mdX12_listen 51 [some (aR 54), some (aI n), some (aI m), some (aI a), some (aI b), some (aI low), some (aL 0), none, some (aI 0), none, none, none] [] M 0 0 (fun r M2 => r = some (aL (fLis n m a b low)) ∧ M2 = M) := by
    intro hok
    obtain ⟨a1, a2, a3, a4, a5, a6, a7, a8⟩ := id hok
    have m1 := mul_bd (u := 10 - a) (v := 10 - a) (by omega) (by omega) (by omega) (by omega)
    have m2 := mul_bd (u := 10 - a) (v := 10 - b) (by omega) (by omega) (by omega) (by omega)
    have m3 := mul_bd (u := 10 - b) (v := 10 - b) (by omega) (by omega) (by omega) (by omega)
    have fin : ∀ best : Int, best = lsO n m a b 8 0 0 → 0 ≤ best → best ≤ 1000000000000 → VC l mdX12_listen 176 [some (aR 54), some (aI n), some (aI m), some (aI a), some (aI b), some (aI low), some (aL best), none, none, none, none, none] [] M 0 0 (fun r M2 => r = some (aL (fLis n m a b low)) ∧ M2 = M) := by
      intro best eb hb1 hb2
      have p1 := pow_bd (x := 100) (by decide) (by decide) n.toNat
      have p2 := pow100 (k := n.toNat) (by omega)
      refine vc_lload dX12_listen_176 rfl ?_
      refine vc_ldc2 dX12_listen_178 rfl klX12_522 ?_
      refine vc_iload_n dX12_listen_181 rfl ?_
      refine vc_callSF dX12_listen_182 (qX12_powerE (M := M) 100 n (by omega) (by omega) (by omega)) rfl okX12_power stX12_power lkX12_518 rfl (Nat.le_of_ble_eq_true rfl) ⟨rfl, rfl⟩ (Nat.le_of_ble_eq_true rfl) (Nat.le_of_ble_eq_true rfl) (Nat.le_of_ble_eq_true rfl) ?_
      refine vc_iload dX12_listen_185 rfl ?_
      refine vc_callSF dX12_listen_187 (qX12_partZ (M := M) best (100 ^ n.toNat) low (by omega) (by omega)) rfl okX12_part stX12_part lkX12_476 rfl (Nat.le_of_ble_eq_true rfl) ⟨rfl, rfl⟩ (Nat.le_of_ble_eq_true rfl) (Nat.le_of_ble_eq_true rfl) (Nat.le_of_ble_eq_true rfl) ?_
      refine vc_lret dX12_listen_190 rfl (Nat.le_of_ble_eq_true rfl) (Nat.le_of_ble_eq_true rfl) ?_
      refine ⟨?_, rfl⟩
      rw [eb, fLis, if_pos ⟨a1, a2, a3, a4, a5, a6, a7, a8⟩]
    have inner : ∀ (both : Int), 0 ≤ both → both ≤ n → both ≤ m → ∀ (k : Nat) (one best : Int), 0 ≤ one → one + k = 8 → 0 ≤ best → best ≤ 1000000000000 → VC l mdX12_listen 170 [some (aR 54), some (aI n), some (aI m), some (aI a), some (aI b), some (aI low), some (aL (lsI n m a b both k one best)), none, some (aI both), none, none, none] [] M 0 0 (fun r M2 => r = some (aL (fLis n m a b low)) ∧ M2 = M) → VC l mdX12_listen 66 [some (aR 54), some (aI n), some (aI m), some (aI a), some (aI b), some (aI low), some (aL best), none, some (aI both), some (aI one), none, none] [] M 0 0 (fun r M2 => r = some (aL (fLis n m a b low)) ∧ M2 = M) := by
      intro both hb0 hbn hbm k
      induction k with
      | zero =>
        intro one best g1 g2 g3 g4 kk
        refine vc_iload dX12_listen_66 rfl ?_
        refine vc_iload dX12_listen_68 rfl ?_
        refine vc_iaddE dX12_listen_70 (by omega) (by omega) ?_
        refine vc_iload_n dX12_listen_71 rfl ?_
        refine vc_icmp_gt dX12_listen_72 (fun h1 => ?_) (fun h1 => by exfalso; omega)
        refine vc_less [some (aR 54), some (aI n), some (aI m), some (aI a), some (aI b), some (aI low), some (aL best), none, some (aI both), none, none, none] (lessL_keep (lessL_keep (lessL_keep (lessL_keep (lessL_keep (lessL_keep (lessL_keep (lessL_drop (lessL_keep (lessL_drop (lessL_drop (lessL_drop lessL_nil)))))))))))) ?_
        exact kk
      | succ k ih =>
        intro one best g1 g2 g3 g4 kk
        refine vc_iload dX12_listen_66 rfl ?_
        refine vc_iload dX12_listen_68 rfl ?_
        refine vc_iaddE dX12_listen_70 (by omega) (by omega) ?_
        refine vc_iload_n dX12_listen_71 rfl ?_
        refine vc_icmp_gt dX12_listen_72 (fun h1 => ?_) (fun h1 => ?_)
        · refine vc_less [some (aR 54), some (aI n), some (aI m), some (aI a), some (aI b), some (aI low), some (aL best), none, some (aI both), none, none, none] (lessL_keep (lessL_keep (lessL_keep (lessL_keep (lessL_keep (lessL_keep (lessL_keep (lessL_drop (lessL_keep (lessL_drop (lessL_drop (lessL_drop lessL_nil)))))))))))) ?_
          have e0 : lsI n m a b both (k + 1) one best = best := by unfold lsI; rw [if_neg (by omega)]
          rw [e0] at kk
          exact kk
        · refine vc_iload dX12_listen_75 rfl ?_
          refine vc_iconst dX12_listen_77 rfl ?_
          refine vc_iload_n dX12_listen_78 rfl ?_
          refine vc_iload dX12_listen_79 rfl ?_
          refine vc_isubE dX12_listen_81 (by omega) (by omega) ?_
          refine vc_imulE dX12_listen_82 (by omega) (by omega) ?_
          refine vc_icmp_gt dX12_listen_83 (fun h2 => ?_) (fun h2 => ?_)
          · refine vc_less [some (aR 54), some (aI n), some (aI m), some (aI a), some (aI b), some (aI low), some (aL best), none, some (aI both), none, none, none] (lessL_keep (lessL_keep (lessL_keep (lessL_keep (lessL_keep (lessL_keep (lessL_keep (lessL_drop (lessL_keep (lessL_drop (lessL_drop (lessL_drop lessL_nil)))))))))))) ?_
            have e0 : lsI n m a b both (k + 1) one best = best := by unfold lsI; rw [if_neg (by omega)]
            rw [e0] at kk
            exact kk
          · refine vc_bipush dX12_listen_86 rfl ?_
            refine vc_bipush dX12_listen_88 rfl ?_
            refine vc_iload_n dX12_listen_90 rfl ?_
            refine vc_isubE dX12_listen_91 (by omega) (by omega) ?_
            refine vc_bipush dX12_listen_92 rfl ?_
            refine vc_iload_n dX12_listen_94 rfl ?_
            refine vc_isubE dX12_listen_95 (by omega) (by omega) ?_
            refine vc_imulE dX12_listen_96 (by omega) (by omega) ?_
            refine vc_isubE dX12_listen_97 (by omega) (by omega) ?_
            refine vc_i2l dX12_listen_98 ?_
            refine vc_iload dX12_listen_99 rfl ?_
            have hkb := kept_bd hok hb0 g1 (show one ≤ n - both by omega)
            refine vc_callSF dX12_listen_101 (qX12_powerE (M := M) (100 - ((10 - a) * (10 - a))) both (by omega) (by omega) (by omega)) rfl okX12_power stX12_power lkX12_518 rfl (Nat.le_of_ble_eq_true rfl) ⟨rfl, rfl⟩ (Nat.le_of_ble_eq_true rfl) (Nat.le_of_ble_eq_true rfl) (Nat.le_of_ble_eq_true rfl) ?_
            refine vc_bipush dX12_listen_104 rfl ?_
            refine vc_bipush dX12_listen_106 rfl ?_
            refine vc_iload_n dX12_listen_108 rfl ?_
            refine vc_isubE dX12_listen_109 (by omega) (by omega) ?_
            refine vc_bipush dX12_listen_110 rfl ?_
            refine vc_iload dX12_listen_112 rfl ?_
            refine vc_isubE dX12_listen_114 (by omega) (by omega) ?_
            refine vc_imulE dX12_listen_115 (by omega) (by omega) ?_
            refine vc_isubE dX12_listen_116 (by omega) (by omega) ?_
            refine vc_i2l dX12_listen_117 ?_
            refine vc_iload dX12_listen_118 rfl ?_
            refine vc_callSF dX12_listen_120 (qX12_powerE (M := M) (100 - ((10 - a) * (10 - b))) one (by omega) (by omega) (by omega)) rfl okX12_power stX12_power lkX12_518 rfl (Nat.le_of_ble_eq_true rfl) ⟨rfl, rfl⟩ (Nat.le_of_ble_eq_true rfl) (Nat.le_of_ble_eq_true rfl) (Nat.le_of_ble_eq_true rfl) ?_
            refine vc_lmulE dX12_listen_123 (by omega) (by omega) ?_
            refine vc_bipush dX12_listen_124 rfl ?_
            refine vc_bipush dX12_listen_126 rfl ?_
            refine vc_iload dX12_listen_128 rfl ?_
            refine vc_isubE dX12_listen_130 (by omega) (by omega) ?_
            refine vc_bipush dX12_listen_131 rfl ?_
            refine vc_iload dX12_listen_133 rfl ?_
            refine vc_isubE dX12_listen_135 (by omega) (by omega) ?_
            refine vc_imulE dX12_listen_136 (by omega) (by omega) ?_
            refine vc_isubE dX12_listen_137 (by omega) (by omega) ?_
            refine vc_i2l dX12_listen_138 ?_
            refine vc_iload_n dX12_listen_139 rfl ?_
            refine vc_iload dX12_listen_140 rfl ?_
            refine vc_isubE dX12_listen_142 (by omega) (by omega) ?_
            refine vc_iload dX12_listen_143 rfl ?_
            refine vc_isubE dX12_listen_145 (by omega) (by omega) ?_
            refine vc_callSF dX12_listen_146 (qX12_powerE (M := M) (100 - ((10 - b) * (10 - b))) ((n - both) - one) (by omega) (by omega) (by omega)) rfl okX12_power stX12_power lkX12_518 rfl (Nat.le_of_ble_eq_true rfl) ⟨rfl, rfl⟩ (Nat.le_of_ble_eq_true rfl) (Nat.le_of_ble_eq_true rfl) (Nat.le_of_ble_eq_true rfl) ?_
            refine vc_lmulE dX12_listen_149 (by omega) (by omega) ?_
            refine vc_lstore dX12_listen_150 (by decide) rfl rfl (show _ = [some (aR 54), some (aI n), some (aI m), some (aI a), some (aI b), some (aI low), some (aL best), none, some (aI both), some (aI one), some (aL ((((100 - ((10 - a) * (10 - a))) ^ both.toNat) * ((100 - ((10 - a) * (10 - b))) ^ one.toNat)) * ((100 - ((10 - b) * (10 - b))) ^ ((n - both) - one).toNat))), none] from rfl) ?_
            refine vc_lload dX12_listen_152 rfl ?_
            refine vc_lload dX12_listen_154 rfl ?_
            refine vc_lif_le dX12_listen_156 dX12_listen_157 (fun h3 => ?_) (fun h3 => ?_)
            · refine vc_iincE dX12_listen_164 rfl (by omega) (by omega) (by decide) rfl (show _ = [some (aR 54), some (aI n), some (aI m), some (aI a), some (aI b), some (aI low), some (aL best), none, some (aI both), some (aI (one + 1)), some (aL ((((100 - ((10 - a) * (10 - a))) ^ both.toNat) * ((100 - ((10 - a) * (10 - b))) ^ one.toNat)) * ((100 - ((10 - b) * (10 - b))) ^ ((n - both) - one).toNat))), none] from rfl) ?_
              refine vc_goto dX12_listen_167 ?_
              refine vc_less [some (aR 54), some (aI n), some (aI m), some (aI a), some (aI b), some (aI low), some (aL best), none, some (aI both), some (aI (one + 1)), none, none] (lessL_keep (lessL_keep (lessL_keep (lessL_keep (lessL_keep (lessL_keep (lessL_keep (lessL_drop (lessL_keep (lessL_keep (lessL_drop (lessL_drop lessL_nil)))))))))))) ?_
              have hc : one ≤ n - both ∧ one ≤ 2 * (m - both) := ⟨by omega, by omega⟩
              have hk := (kept_bd hok hb0 g1 hc.1).2
              unfold lsI at kk
              rw [if_pos hc] at kk
              rw [show maxZ best (keptZ n a b both one) = best by unfold maxZ; rw [if_neg (by unfold keptZ; omega)]] at kk
              exact ih (one + 1) best (by omega) (by omega) g3 g4 kk
            · refine vc_lload dX12_listen_160 rfl ?_
              refine vc_lstore dX12_listen_162 (by decide) rfl rfl (show _ = [some (aR 54), some (aI n), some (aI m), some (aI a), some (aI b), some (aI low), some (aL ((((100 - ((10 - a) * (10 - a))) ^ both.toNat) * ((100 - ((10 - a) * (10 - b))) ^ one.toNat)) * ((100 - ((10 - b) * (10 - b))) ^ ((n - both) - one).toNat))), none, some (aI both), some (aI one), some (aL ((((100 - ((10 - a) * (10 - a))) ^ both.toNat) * ((100 - ((10 - a) * (10 - b))) ^ one.toNat)) * ((100 - ((10 - b) * (10 - b))) ^ ((n - both) - one).toNat))), none] from rfl) ?_
              refine vc_iincE dX12_listen_164 rfl (by omega) (by omega) (by decide) rfl (show _ = [some (aR 54), some (aI n), some (aI m), some (aI a), some (aI b), some (aI low), some (aL ((((100 - ((10 - a) * (10 - a))) ^ both.toNat) * ((100 - ((10 - a) * (10 - b))) ^ one.toNat)) * ((100 - ((10 - b) * (10 - b))) ^ ((n - both) - one).toNat))), none, some (aI both), some (aI (one + 1)), some (aL ((((100 - ((10 - a) * (10 - a))) ^ both.toNat) * ((100 - ((10 - a) * (10 - b))) ^ one.toNat)) * ((100 - ((10 - b) * (10 - b))) ^ ((n - both) - one).toNat))), none] from rfl) ?_
              refine vc_goto dX12_listen_167 ?_
              refine vc_less [some (aR 54), some (aI n), some (aI m), some (aI a), some (aI b), some (aI low), some (aL ((((100 - ((10 - a) * (10 - a))) ^ both.toNat) * ((100 - ((10 - a) * (10 - b))) ^ one.toNat)) * ((100 - ((10 - b) * (10 - b))) ^ ((n - both) - one).toNat))), none, some (aI both), some (aI (one + 1)), none, none] (lessL_keep (lessL_keep (lessL_keep (lessL_keep (lessL_keep (lessL_keep (lessL_keep (lessL_drop (lessL_keep (lessL_keep (lessL_drop (lessL_drop lessL_nil)))))))))))) ?_
              have hc : one ≤ n - both ∧ one ≤ 2 * (m - both) := ⟨by omega, by omega⟩
              have hk := (kept_bd hok hb0 g1 hc.1).2
              unfold lsI at kk
              rw [if_pos hc] at kk
              rw [show maxZ best (keptZ n a b both one) = keptZ n a b both one by unfold maxZ; rw [if_pos (by unfold keptZ; omega)]] at kk
              exact ih (one + 1) (keptZ n a b both one) (by omega) (by omega) hk.1 hk.2 kk
    have outer : ∀ (k : Nat) (both best : Int), 0 ≤ both → both + k = 8 → 0 ≤ best → best ≤ 1000000000000 → lsO n m a b k both best = lsO n m a b 8 0 0 → VC l mdX12_listen 51 [some (aR 54), some (aI n), some (aI m), some (aI a), some (aI b), some (aI low), some (aL best), none, some (aI both), none, none, none] [] M 0 0 (fun r M2 => r = some (aL (fLis n m a b low)) ∧ M2 = M) := by
      intro k
      induction k with
      | zero =>
        intro both best g1 g2 g3 g4 he
        refine vc_iload dX12_listen_51 rfl ?_
        refine vc_iload_n dX12_listen_53 rfl ?_
        refine vc_icmp_gt dX12_listen_54 (fun h1 => ?_) (fun h1 => by exfalso; omega)
        refine vc_less [some (aR 54), some (aI n), some (aI m), some (aI a), some (aI b), some (aI low), some (aL best), none, none, none, none, none] (lessL_keep (lessL_keep (lessL_keep (lessL_keep (lessL_keep (lessL_keep (lessL_keep (lessL_drop (lessL_drop (lessL_drop (lessL_drop (lessL_drop lessL_nil)))))))))))) ?_
        exact fin best he g3 g4
      | succ k ih =>
        intro both best g1 g2 g3 g4 he
        refine vc_iload dX12_listen_51 rfl ?_
        refine vc_iload_n dX12_listen_53 rfl ?_
        refine vc_icmp_gt dX12_listen_54 (fun h1 => ?_) (fun h1 => ?_)
        · refine vc_less [some (aR 54), some (aI n), some (aI m), some (aI a), some (aI b), some (aI low), some (aL best), none, none, none, none, none] (lessL_keep (lessL_keep (lessL_keep (lessL_keep (lessL_keep (lessL_keep (lessL_keep (lessL_drop (lessL_drop (lessL_drop (lessL_drop (lessL_drop lessL_nil)))))))))))) ?_
          have e0 : lsO n m a b (k + 1) both best = best := by unfold lsO; rw [if_neg (by omega)]
          exact fin best (by rw [← he, e0]) g3 g4
        · refine vc_iload dX12_listen_57 rfl ?_
          refine vc_iload_n dX12_listen_59 rfl ?_
          refine vc_icmp_gt dX12_listen_60 (fun h2 => ?_) (fun h2 => ?_)
          · refine vc_less [some (aR 54), some (aI n), some (aI m), some (aI a), some (aI b), some (aI low), some (aL best), none, none, none, none, none] (lessL_keep (lessL_keep (lessL_keep (lessL_keep (lessL_keep (lessL_keep (lessL_keep (lessL_drop (lessL_drop (lessL_drop (lessL_drop (lessL_drop lessL_nil)))))))))))) ?_
            have e0 : lsO n m a b (k + 1) both best = best := by unfold lsO; rw [if_neg (by omega)]
            exact fin best (by rw [← he, e0]) g3 g4
          · refine vc_iconst dX12_listen_63 rfl ?_
            refine vc_istore dX12_listen_64 (by decide) rfl (show _ = [some (aR 54), some (aI n), some (aI m), some (aI a), some (aI b), some (aI low), some (aL best), none, some (aI both), some (aI 0), none, none] from rfl) ?_
            have hc : both ≤ n ∧ both ≤ m := ⟨by omega, by omega⟩
            have hk := lsI_bd hok g1 8 0 best (by decide) g3 g4
            unfold lsO at he
            rw [if_pos hc] at he
            refine inner both g1 hc.1 hc.2 8 0 best (by decide) (by decide) g3 g4 ?_
            refine vc_iincE dX12_listen_170 rfl (by omega) (by omega) (by decide) rfl (show _ = [some (aR 54), some (aI n), some (aI m), some (aI a), some (aI b), some (aI low), some (aL (lsI n m a b both 8 0 best)), none, some (aI (both + 1)), none, none, none] from rfl) ?_
            refine vc_goto dX12_listen_173 ?_
            exact ih (both + 1) _ (by omega) (by omega) hk.1 hk.2 (he.trans (by rfl))
    exact outer 8 0 0 (by decide) (by decide) (by decide) (by decide) rfl
  refine Call.of [some (aR 54), some (aI n), some (aI m), some (aI a), some (aI b), some (aI low), none, none, none, none, none, none] rfl (Nat.le_of_ble_eq_true rfl) rfl ?_
  refine vc_iload_n dX12_listen_0 rfl ?_
  refine vc_iconst dX12_listen_1 rfl ?_
  refine vc_bipush dX12_listen_2 rfl ?_
  refine vc_callSF dX12_listen_4 (qX12_isIn (M := M) n 1 6) rfl okX12_isIn stX12_isIn lkX12_83 rfl (Nat.le_of_ble_eq_true rfl) ⟨rfl, rfl⟩ (Nat.le_of_ble_eq_true rfl) (Nat.le_of_ble_eq_true rfl) (Nat.le_of_ble_eq_true rfl) ?_
  refine vc_if_eq dX12_listen_7 (fun h1 => ?_) (fun h1 => ?_)
  · refine vc_ldc2 dX12_listen_41 rfl klX12_474 ?_
    refine vc_lret dX12_listen_44 rfl (Nat.le_of_ble_eq_true rfl) (Nat.le_of_ble_eq_true rfl) ?_
    refine ⟨?_, rfl⟩
    simp only [isIn_iff] at *
    rw [fLis, if_neg (by omega)]
  · refine vc_iload_n dX12_listen_10 rfl ?_
    refine vc_iconst dX12_listen_11 rfl ?_
    refine vc_bipush dX12_listen_12 rfl ?_
    refine vc_callSF dX12_listen_14 (qX12_isIn (M := M) m 0 6) rfl okX12_isIn stX12_isIn lkX12_83 rfl (Nat.le_of_ble_eq_true rfl) ⟨rfl, rfl⟩ (Nat.le_of_ble_eq_true rfl) (Nat.le_of_ble_eq_true rfl) (Nat.le_of_ble_eq_true rfl) ?_
    refine vc_if_eq dX12_listen_17 (fun h2 => ?_) (fun h2 => ?_)
    · refine vc_ldc2 dX12_listen_41 rfl klX12_474 ?_
      refine vc_lret dX12_listen_44 rfl (Nat.le_of_ble_eq_true rfl) (Nat.le_of_ble_eq_true rfl) ?_
      refine ⟨?_, rfl⟩
      simp only [isIn_iff] at *
      rw [fLis, if_neg (by omega)]
    · refine vc_iload_n dX12_listen_20 rfl ?_
      refine vc_iconst dX12_listen_21 rfl ?_
      refine vc_bipush dX12_listen_22 rfl ?_
      refine vc_callSF dX12_listen_24 (qX12_isIn (M := M) a 0 10) rfl okX12_isIn stX12_isIn lkX12_83 rfl (Nat.le_of_ble_eq_true rfl) ⟨rfl, rfl⟩ (Nat.le_of_ble_eq_true rfl) (Nat.le_of_ble_eq_true rfl) (Nat.le_of_ble_eq_true rfl) ?_
      refine vc_if_eq dX12_listen_27 (fun h3 => ?_) (fun h3 => ?_)
      · refine vc_ldc2 dX12_listen_41 rfl klX12_474 ?_
        refine vc_lret dX12_listen_44 rfl (Nat.le_of_ble_eq_true rfl) (Nat.le_of_ble_eq_true rfl) ?_
        refine ⟨?_, rfl⟩
        simp only [isIn_iff] at *
        rw [fLis, if_neg (by omega)]
      · refine vc_iload dX12_listen_30 rfl ?_
        refine vc_iconst dX12_listen_32 rfl ?_
        refine vc_bipush dX12_listen_33 rfl ?_
        refine vc_callSF dX12_listen_35 (qX12_isIn (M := M) b 0 10) rfl okX12_isIn stX12_isIn lkX12_83 rfl (Nat.le_of_ble_eq_true rfl) ⟨rfl, rfl⟩ (Nat.le_of_ble_eq_true rfl) (Nat.le_of_ble_eq_true rfl) (Nat.le_of_ble_eq_true rfl) ?_
        refine vc_if_ne dX12_listen_38 (fun h4 => ?_) (fun h4 => ?_)
        · refine vc_lconst dX12_listen_45 ?_
          refine vc_topL 0 rfl ?_
          refine vc_lstore dX12_listen_46 (by decide) rfl rfl (show _ = [some (aR 54), some (aI n), some (aI m), some (aI a), some (aI b), some (aI low), some (aL 0), none, none, none, none, none] from rfl) ?_
          refine vc_iconst dX12_listen_48 rfl ?_
          refine vc_istore dX12_listen_49 (by decide) rfl (show _ = [some (aR 54), some (aI n), some (aI m), some (aI a), some (aI b), some (aI low), some (aL 0), none, some (aI 0), none, none, none] from rfl) ?_
          simp only [isIn_iff] at *
          exact main ⟨by omega, by omega, by omega, by omega, by omega, by omega, by omega, by omega⟩
        · refine vc_ldc2 dX12_listen_41 rfl klX12_474 ?_
          refine vc_lret dX12_listen_44 rfl (Nat.le_of_ble_eq_true rfl) (Nat.le_of_ble_eq_true rfl) ?_
          refine ⟨?_, rfl⟩
          simp only [isIn_iff] at *
          rw [fLis, if_neg (by omega)]
