/-! the other letter first; the points where a common divisor of images is the image of the common divisor -/
theorem mp_maxb : ∀ (n : Nat) (f : Nat → Nat), ∃ N, ∀ i, i < n → f i ≤ N
  | 0, _ => ⟨0, fun i h => absurd h (Nat.not_lt_zero _)⟩
  | n + 1, f => by
    obtain ⟨N, h⟩ := mp_maxb n f
    refine ⟨N + f n, fun i hi => ?_⟩
    by_cases e : i = n
    · rw [e]; omega
    · have := h i (by omega); omega
section
variable {R U A : Type}
noncomputable def mp_sw [Lean.Grind.CommRing R] [Lean.Grind.CommRing U] (cu : U → Nat → R) (ca : A → Nat → U) (a : A) (j : Nat) : U := mp_mk cu (fun i => cu (ca a i) j)
theorem mp_sw_cf [Lean.Grind.CommRing R] [Lean.Grind.CommRing U] [Lean.Grind.CommRing A] {cu : U → Nat → R} {ca : A → Nat → U} (HU : mp_P cu) (HA : mp_P ca) (a : A) (j i : Nat) : cu (mp_sw cu ca a j) i = cu (ca a i) j := by
  obtain ⟨N, hN⟩ := HA.2.2.2.1 a
  exact mp_mk_cf HU N (fun n hn => by rw [hN n hn, mp_zero HU]) i
theorem mp_xb [Lean.Grind.CommRing R] [Lean.Grind.CommRing U] [Lean.Grind.CommRing A] {cu : U → Nat → R} {ca : A → Nat → U} (HU : mp_P cu) (HA : mp_P ca) (a : A) : ∃ N, ∀ i, mp_sz cu (ca a i) ≤ N := by
  obtain ⟨M, hM⟩ := HA.2.2.2.1 a
  obtain ⟨N, hN⟩ := mp_maxb M (fun i => mp_sz cu (ca a i))
  refine ⟨N, fun i => ?_⟩
  by_cases h : i < M
  · exact hN i h
  · rw [hM i (by omega), (mp_sz_0 HU).mpr rfl]; omega
theorem mp_sw_P [Lean.Grind.CommRing R] [Lean.Grind.CommRing U] [Lean.Grind.CommRing A] {cu : U → Nat → R} {ca : A → Nat → U} (HU : mp_P cu) (HA : mp_P ca) : mp_P (mp_sw cu ca) := by
  refine ⟨fun a b h => ?_, fun a b n => ?_, fun a b n => ?_, fun a => ?_, fun g N hg => ?_, fun n => ?_⟩
  · refine mp_ext HA (fun i => mp_ext HU (fun j => ?_))
    rw [← mp_sw_cf HU HA, h, mp_sw_cf HU HA]
  · refine mp_ext HU (fun i => ?_)
    rw [mp_add HU, mp_sw_cf HU HA, mp_sw_cf HU HA, mp_sw_cf HU HA, mp_add HA, mp_add HU]
  · refine mp_ext HU (fun m => ?_)
    rw [mp_sw_cf HU HA, mp_mul HA, mp_sum HU, mp_sum HU]
    rw [mp_S_cong (g := fun k => mp_S (n + 1) (fun i => cu (ca a k) i * cu (ca b (m - k)) (n - i))) (fun k _ => mp_mul HU _ _ _), mp_S_swap]
    refine mp_S_cong (fun i _ => ?_)
    rw [mp_mul HU]
    exact mp_S_cong (fun k _ => by rw [mp_sw_cf HU HA, mp_sw_cf HU HA])
  · obtain ⟨N, hN⟩ := mp_xb HU HA a
    exact ⟨N, fun n hn => mp_ext HU (fun i => by rw [mp_sw_cf HU HA, mp_zero HU]; exact mp_sz_out HU (Nat.le_trans (hN i) hn))⟩
  · obtain ⟨M, hM⟩ := mp_maxb N (fun j => mp_sz cu (g j))
    have h1 : ∀ i j, cu (mp_mk cu (fun j => cu (g j) i)) j = cu (g j) i := fun i j => mp_mk_cf HU N (fun n hn => by rw [hg n hn, mp_zero HU]) j
    refine ⟨mp_mk ca (fun i => mp_mk cu (fun j => cu (g j) i)), fun n => mp_ext HU (fun i => ?_)⟩
    rw [mp_sw_cf HU HA, mp_mk_cf HA M (fun i hi => mp_ext HU (fun j => ?_)), h1]
    rw [h1, mp_zero HU]
    by_cases hj : j < N
    · exact mp_sz_out HU (Nat.le_trans (hM j hj) hi)
    · rw [hg j (by omega), mp_zero HU]
  · refine mp_ext HU (fun i => ?_)
    rw [mp_sw_cf HU HA, mp_one HA]
    by_cases hn : n = 0
    · rw [if_pos hn, mp_one HU]
      by_cases hi : i = 0
      · rw [if_pos hi, if_pos hi, mp_one HU, if_pos hn]
      · rw [if_neg hi, if_neg hi, mp_zero HU]
    · rw [if_neg hn, mp_zero HU]
      by_cases hi : i = 0
      · rw [if_pos hi, mp_one HU, if_neg hn]
      · rw [if_neg hi, mp_zero HU]
/-- the size in x -/
noncomputable def mp_xz [Lean.Grind.CommRing R] [Lean.Grind.CommRing U] (cu : U → Nat → R) (ca : A → Nat → U) (a : A) : Nat := mp_sz (mp_sw cu ca) a
theorem mp_xz_row [Lean.Grind.CommRing R] [Lean.Grind.CommRing U] [Lean.Grind.CommRing A] {cu : U → Nat → R} {ca : A → Nat → U} (HU : mp_P cu) (HA : mp_P ca) (a : A) (i : Nat) : mp_sz cu (ca a i) ≤ mp_xz cu ca a :=
  mp_sz_le HU (fun n hn => by rw [← mp_sw_cf HU HA, mp_sz_out (mp_sw_P HU HA) hn, mp_zero HU])
theorem mp_xz_le [Lean.Grind.CommRing R] [Lean.Grind.CommRing U] [Lean.Grind.CommRing A] {cu : U → Nat → R} {ca : A → Nat → U} (HU : mp_P cu) (HA : mp_P ca) {a : A} {N : Nat} (h : ∀ i, mp_sz cu (ca a i) ≤ N) : mp_xz cu ca a ≤ N :=
  mp_sz_le (mp_sw_P HU HA) (fun n hn => mp_ext HU (fun i => by rw [mp_sw_cf HU HA, mp_zero HU]; exact mp_sz_out HU (Nat.le_trans (h i) hn)))
theorem mp_xz_mul [Lean.Grind.CommRing R] [Lean.Grind.CommRing U] [Lean.Grind.CommRing A] {cu : U → Nat → R} {ca : A → Nat → U} (hF : mp_Fd R) (HU : mp_P cu) (HA : mp_P ca) {a b : A} (ha : a ≠ 0) (hb : b ≠ 0) : mp_xz cu ca (a * b) + 1 = mp_xz cu ca a + mp_xz cu ca b := mp_sz_mul (mp_sw_P HU HA) (mp_dom HU (mp_Fd_nz hF)) ha hb
theorem mp_xz_pos [Lean.Grind.CommRing R] [Lean.Grind.CommRing U] [Lean.Grind.CommRing A] {cu : U → Nat → R} {ca : A → Nat → U} (HU : mp_P cu) (HA : mp_P ca) {a : A} (ha : a ≠ 0) : 0 < mp_xz cu ca a := mp_sz_pos (mp_sw_P HU HA) ha
theorem mp_xz_C [Lean.Grind.CommRing R] [Lean.Grind.CommRing U] [Lean.Grind.CommRing A] {cu : U → Nat → R} {ca : A → Nat → U} (HU : mp_P cu) (HA : mp_P ca) (c : U) : mp_xz cu ca (mp_C ca c) = mp_sz cu c := by
  have h1 : mp_xz cu ca (mp_C ca c) ≤ mp_sz cu c := mp_xz_le HU HA (fun i => by
    rw [mp_C_cf HA]
    split
    · exact Nat.le_refl _
    · rw [(mp_sz_0 HU).mpr rfl]; omega)
  have h2 := mp_xz_row HU HA (mp_C ca c) 0
  rw [mp_C_cf HA, if_pos rfl] at h2
  omega
theorem mp_xz_some [Lean.Grind.CommRing R] [Lean.Grind.CommRing U] [Lean.Grind.CommRing A] {cu : U → Nat → R} {ca : A → Nat → U} (HU : mp_P cu) (HA : mp_P ca) {a : A} (ha : a ≠ 0) : ∃ i, i < mp_sz ca a ∧ mp_sz cu (ca a i) = mp_xz cu ca a := by
  refine Classical.byContradiction (fun hn => ?_)
  have hp := mp_xz_pos HU HA ha
  have h1 : mp_xz cu ca a ≤ mp_xz cu ca a - 1 := mp_xz_le HU HA (fun i => by
    have h2 := mp_xz_row HU HA a i
    by_cases hi : i < mp_sz ca a
    · have : mp_sz cu (ca a i) ≠ mp_xz cu ca a := fun e => hn ⟨i, hi, e⟩
      omega
    · rw [mp_sz_out HA (by omega), (mp_sz_0 HU).mpr rfl]; omega)
  omega
/-- one term -/
noncomputable def mp_mm [Lean.Grind.CommRing R] [Lean.Grind.CommRing U] [Lean.Grind.CommRing A] (cu : U → Nat → R) (ca : A → Nat → U) (i j : Nat) : A := mp_m ca (mp_m cu 1 j) i
theorem mp_mm_mul [Lean.Grind.CommRing R] [Lean.Grind.CommRing U] [Lean.Grind.CommRing A] {cu : U → Nat → R} {ca : A → Nat → U} (HU : mp_P cu) (HA : mp_P ca) (i j : Nat) (a : A) (k n : Nat) : cu (ca (mp_mm cu ca i j * a) k) n = if i ≤ k ∧ j ≤ n then cu (ca a (k - i)) (n - j) else 0 := by
  rw [mp_mm, mp_m_mul HA]
  by_cases h : i ≤ k
  · rw [if_pos h, mp_m_mul HU]
    by_cases h2 : j ≤ n
    · rw [if_pos h2, if_pos ⟨h, h2⟩]; grind
    · rw [if_neg h2, if_neg (fun q => h2 q.2)]
  · rw [if_neg h, if_neg (fun q => h q.1), mp_zero HU]
theorem mp_mm_cf [Lean.Grind.CommRing R] [Lean.Grind.CommRing U] [Lean.Grind.CommRing A] {cu : U → Nat → R} {ca : A → Nat → U} (HU : mp_P cu) (HA : mp_P ca) (i j k n : Nat) : cu (ca (mp_mm cu ca i j) k) n = if k = i ∧ n = j then 1 else 0 := by
  rw [mp_mm, mp_m_cf HA]
  by_cases h : k = i
  · rw [if_pos h, mp_m_cf HU]
    by_cases h2 : n = j
    · rw [if_pos h2, if_pos ⟨h, h2⟩]
    · rw [if_neg h2, if_neg (fun q => h2 q.2)]
  · rw [if_neg h, if_neg (fun q => h q.1), mp_zero HU]
theorem mp_CC_mul [Lean.Grind.CommRing R] [Lean.Grind.CommRing U] [Lean.Grind.CommRing A] {cu : U → Nat → R} {ca : A → Nat → U} (HU : mp_P cu) (HA : mp_P ca) (c : R) (a : A) (k n : Nat) : cu (ca (mp_C ca (mp_C cu c) * a) k) n = c * cu (ca a k) n := by
  rw [mp_C_mul HA, mp_C_mul HU]
set_option maxHeartbeats 4000000 in
/-- a line of x that is a sum of multiples of two polynomials that only units divide -/
theorem mp_res [Lean.Grind.CommRing R] [Lean.Grind.CommRing U] [Lean.Grind.CommRing A] {cu : U → Nat → R} {ca : A → Nat → U} (hF : mp_Fd R) (HU : mp_P cu) (HA : mp_P ca) {p q : A} (hc : mp_Cp p q) {m n D : Nat} (hm : mp_sz ca p = m + 1) (hn : mp_sz ca q = n + 1) (hp : mp_xz cu ca p ≤ D + 1) (hq : mp_xz cu ca q ≤ D + 1) : ∃ (u v : A) (r : U), r ≠ 0 ∧ u * p + v * q = mp_C ca r ∧ mp_sz cu r ≤ (m + n) * D + D + 1 := by
  have hU := mp_dom HU (mp_Fd_nz hF)
  have hAd := mp_dom HA hU
  have hp0 : p ≠ 0 := fun e => by rw [(mp_sz_0 HA).mpr e] at hm; omega
  have hq0 : q ≠ 0 := fun e => by rw [(mp_sz_0 HA).mpr e] at hn; omega
  have hpr := fun i => Nat.le_trans (mp_xz_row HU HA p i) hp
  have hqr := fun i => Nat.le_trans (mp_xz_row HU HA q i) hq
  by_cases hm0 : m = 0
  · subst hm0
    refine ⟨1, 0, ca p 0, mp_sz_top HA hm, ?_, ?_⟩
    · rw [← mp_sz_1 HA (Nat.le_of_eq hm)]; grind
    · have := hpr 0; omega
  by_cases hn0 : n = 0
  · subst hn0
    refine ⟨0, 1, ca q 0, mp_sz_top HA hn, ?_, ?_⟩
    · rw [← mp_sz_1 HA (Nat.le_of_eq hn)]; grind
    · have := hqr 0; omega
  obtain ⟨K, hK⟩ : ∃ K, K = (m + n) * D := ⟨_, rfl⟩
  obtain ⟨w, hw⟩ : ∃ w : Nat → A, w = fun k => if k / (K + 1) < n then mp_mm cu ca (k / (K + 1)) (k % (K + 1)) * p else mp_mm cu ca (k / (K + 1) - n) (k % (K + 1)) * q := ⟨_, rfl⟩
  have hwx : ∀ k i j, K + D + 1 ≤ j → cu (ca (w k) i) j = 0 := by
    intro k i j hj
    have hk : k % (K + 1) < K + 1 := Nat.mod_lt _ (by omega)
    rw [hw]
    dsimp only
    split
    · rw [mp_mm_mul HU HA]
      split
      · exact mp_sz_out HU (Nat.le_trans (hpr _) (by omega))
      · rfl
    · rw [mp_mm_mul HU HA]
      split
      · exact mp_sz_out HU (Nat.le_trans (hqr _) (by omega))
      · rfl
  have hwt : ∀ k i, k < (m + n) * (K + 1) → m + n ≤ i → ca (w k) i = 0 := by
    intro k i hk hi
    have h2 : k / (K + 1) < m + n := Nat.div_lt_of_lt_mul (by rw [Nat.mul_comm]; exact hk)
    rw [hw]
    dsimp only
    split
    · rw [mp_mm, mp_m_mul HA]
      split
      · rw [mp_sz_out HA (by omega)]; grind
      · rfl
    · rw [mp_mm, mp_m_mul HA]
      split
      · rw [mp_sz_out HA (by omega)]; grind
      · rfl
  obtain ⟨c, ⟨k0, hk0, hc0⟩, hsol⟩ := mp_lin hF ((m + n - 1) * (K + D + 1)) ((m + n) * (K + 1)) (fun k e => cu (ca (w k) (e / (K + D + 1) + 1)) (e % (K + D + 1))) (by
    obtain ⟨z, hz⟩ : ∃ z, m + n = z + 1 := ⟨m + n - 1, by omega⟩
    rw [hK, hz]
    simp only [Nat.add_sub_cancel, Nat.mul_add, Nat.add_mul, Nat.mul_one, Nat.one_mul]
    have : z * D ≤ z * D + D := by omega
    omega)
  have hwc : ∀ i j, cu (ca (mp_S ((m + n) * (K + 1)) (fun k => mp_C ca (mp_C cu (c k)) * w k)) i) j = mp_S ((m + n) * (K + 1)) (fun k => c k * cu (ca (w k) i) j) := by
    intro i j
    rw [mp_sum HA, mp_sum HU]
    exact mp_S_cong (fun k _ => mp_CC_mul HU HA _ _ _ _)
  have hW : ∀ i, 1 ≤ i → ca (mp_S ((m + n) * (K + 1)) (fun k => mp_C ca (mp_C cu (c k)) * w k)) i = 0 := by
    intro i hi
    refine mp_ext HU (fun j => ?_)
    rw [hwc, mp_zero HU]
    by_cases hj : K + D + 1 ≤ j
    · exact mp_S_zero (fun k _ => by rw [hwx k i j hj]; grind)
    · by_cases hi2 : m + n ≤ i
      · exact mp_S_zero (fun k hk => by rw [hwt k i hk hi2, mp_zero HU]; grind)
      · have h1 := hsol ((i - 1) * (K + D + 1) + j) (by
          have : (i - 1) + 1 ≤ m + n - 1 := by omega
          have h9 := Nat.mul_le_mul_right (K + D + 1) this
          rw [Nat.add_mul, Nat.one_mul] at h9
          omega)
        have e1 : ((i - 1) * (K + D + 1) + j) / (K + D + 1) = i - 1 := by
          rw [Nat.mul_comm, Nat.mul_add_div (by omega), Nat.div_eq_of_lt (by omega)]
          rfl
        have e2 : ((i - 1) * (K + D + 1) + j) % (K + D + 1) = j := by
          rw [Nat.mul_comm, Nat.mul_add_mod, Nat.mod_eq_of_lt (by omega)]
        rw [e1, e2, show i - 1 + 1 = i by omega] at h1
        exact h1
  have hWr := mp_sz_1 HA (mp_sz_le HA (M := 1) hW)
  obtain ⟨u, hu⟩ : ∃ u : A, u = mp_S ((m + n) * (K + 1)) (fun k => if k / (K + 1) < n then mp_C ca (mp_C cu (c k)) * mp_mm cu ca (k / (K + 1)) (k % (K + 1)) else 0) := ⟨_, rfl⟩
  obtain ⟨v, hv⟩ : ∃ v : A, v = mp_S ((m + n) * (K + 1)) (fun k => if k / (K + 1) < n then 0 else mp_C ca (mp_C cu (c k)) * mp_mm cu ca (k / (K + 1) - n) (k % (K + 1))) := ⟨_, rfl⟩
  have huv : u * p + v * q = mp_S ((m + n) * (K + 1)) (fun k => mp_C ca (mp_C cu (c k)) * w k) := by
    rw [hu, hv, ← mp_S_mulr, ← mp_S_mulr, ← mp_S_add]
    refine mp_S_cong (fun k _ => ?_)
    rw [hw]
    dsimp only
    split <;> grind
  have hcu : ∀ i j, cu (ca u i) j = mp_S ((m + n) * (K + 1)) (fun k => if k / (K + 1) < n ∧ i = k / (K + 1) ∧ j = k % (K + 1) then c k else 0) := by
    intro i j
    rw [hu, mp_sum HA, mp_sum HU]
    refine mp_S_cong (fun k _ => ?_)
    split
    · next h =>
      rw [mp_CC_mul HU HA, mp_mm_cf HU HA]
      by_cases h2 : i = k / (K + 1) ∧ j = k % (K + 1)
      · rw [if_pos h2, if_pos ⟨h, h2⟩]; grind
      · rw [if_neg h2, if_neg (fun z => h2 z.2)]; grind
    · next h => rw [if_neg (fun z => h z.1), mp_zero HA, mp_zero HU]
  have hcv : ∀ i j, cu (ca v i) j = mp_S ((m + n) * (K + 1)) (fun k => if ¬ k / (K + 1) < n ∧ i = k / (K + 1) - n ∧ j = k % (K + 1) then c k else 0) := by
    intro i j
    rw [hv, mp_sum HA, mp_sum HU]
    refine mp_S_cong (fun k _ => ?_)
    split
    · next h => rw [if_neg (fun z => z.1 h), mp_zero HA, mp_zero HU]
    · next h =>
      rw [mp_CC_mul HU HA, mp_mm_cf HU HA]
      by_cases h2 : i = k / (K + 1) - n ∧ j = k % (K + 1)
      · rw [if_pos h2, if_pos ⟨h, h2⟩]; grind
      · rw [if_neg h2, if_neg (fun z => h2 z.2)]; grind
  have hdm : ∀ k k' : Nat, k / (K + 1) = k' / (K + 1) → k % (K + 1) = k' % (K + 1) → k = k' := by
    intro k k' h1 h2
    rw [← Nat.div_add_mod k (K + 1), ← Nat.div_add_mod k' (K + 1), h1, h2]
  refine ⟨u, v, _, ?_, huv.trans hWr, ?_⟩
  · intro hr
    rw [hr, mp_C_0 HA] at hWr
    rw [hWr] at huv
    have hu0 : u = 0 := by
      refine Classical.byContradiction (fun hne => ?_)
      have hd : mp_D q u := mp_euclid hF HU HA hq0 hc (p := p) ⟨-v, by grind⟩
      have h1 := mp_D_sz HA hU hd hne
      have h2 : mp_sz ca u ≤ n := mp_sz_le HA (fun i hi => mp_ext HU (fun j => by
        rw [hcu, mp_zero HU]
        exact mp_S_zero (fun k _ => if_neg (by omega))))
      omega
    have hv0 : v = 0 := by
      rcases hAd.1 v q (by rw [hu0] at huv; grind) with z | z
      · exact z
      · exact absurd z hq0
    by_cases hkn : k0 / (K + 1) < n
    · have h1 := hcu (k0 / (K + 1)) (k0 % (K + 1))
      rw [hu0, mp_zero HA, mp_zero HU, mp_S_one (k := k0) hk0 (fun i _ hi => if_neg (fun z => hi (hdm _ _ z.2.1.symm z.2.2.symm))), if_pos ⟨hkn, rfl, rfl⟩] at h1
      exact hc0 h1.symm
    · have h1 := hcv (k0 / (K + 1) - n) (k0 % (K + 1))
      rw [hv0, mp_zero HA, mp_zero HU, mp_S_one (k := k0) hk0 (fun i _ hi => if_neg (fun z => hi (hdm _ _ (by have := z.1; have := z.2.1; omega) z.2.2.symm))), if_pos ⟨hkn, rfl, rfl⟩] at h1
      exact hc0 h1.symm
  · rw [← hK]
    exact mp_sz_le HU (fun j hj => by rw [hwc]; exact mp_S_zero (fun k _ => by rw [hwx k 0 j hj]; grind))
end
