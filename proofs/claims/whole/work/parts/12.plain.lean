/-! the plain form: rows of 40 numbers for a power of t; lowest terms by the first dependence -/
section
variable {U A : Type}
/-- the polynomial as one line -/
noncomputable def mk_K [Lean.Grind.CommRing U] [Lean.Grind.CommRing A] (cu : U → Nat → FP) (ca : A → Nat → U) (a : A) : U := mp_e ca (mp_m cu 1 40) a
theorem mk_cf [Lean.Grind.CommRing U] [Lean.Grind.CommRing A] {cu : U → Nat → FP} {ca : A → Nat → U} (HU : mp_P cu) (HA : mp_P ca) : ∀ (n : Nat) (a : A), mp_sz ca a ≤ n → mp_xz cu ca a ≤ 40 → ∀ j, cu (mk_K cu ca a) j = cu (ca a (j / 40)) (j % 40) := by
  have hU := mp_dom HU (mp_Fd_nz mp_FP)
  intro n
  induction n with
  | zero =>
    intro a h1 _ j
    have : a = 0 := (mp_sz_0 HA).mp (by omega)
    rw [this, mk_K, mp_e_0 HA hU, mp_zero HU, mp_zero HA, mp_zero HU]
  | succ n ih =>
    intro a h1 h2 j
    obtain ⟨b, hb, -⟩ := mp_unshift HA a
    have hb1 : mp_sz ca b ≤ n := mp_sz_le HA (fun k hk => by rw [hb]; exact mp_sz_out HA (by omega))
    have hb2 : mp_xz cu ca b ≤ 40 := mp_xz_le HU HA (fun i => by rw [hb]; exact Nat.le_trans (mp_xz_row HU HA a _) h2)
    have h0 := Nat.le_trans (mp_xz_row HU HA a 0) h2
    rw [mk_K, mp_e_horner HA hU _ (k := 0) hb, mp_add HU, show mp_e ca (mp_m cu 1 40) b * mp_m cu 1 40 = mp_m cu 1 40 * mp_e ca (mp_m cu 1 40) b by clear ih; grind, mp_m_mul HU]
    by_cases hj : 40 ≤ j
    · have := ih b hb1 hb2 (j - 40)
      rw [mk_K] at this
      rw [if_pos hj, this, hb, mp_sz_out HU (a := ca a 0) (n := j) (by omega), show (j - 40) / 40 + 1 = j / 40 by omega, show (j - 40) % 40 = j % 40 by omega]
      clear ih this
      grind
    · rw [if_neg hj, Nat.div_eq_of_lt (by omega), Nat.mod_eq_of_lt (by omega)]
      clear ih
      grind
theorem mk_inj [Lean.Grind.CommRing U] [Lean.Grind.CommRing A] {cu : U → Nat → FP} {ca : A → Nat → U} (HU : mp_P cu) (HA : mp_P ca) {a b : A} (ha : mp_xz cu ca a ≤ 40) (hb : mp_xz cu ca b ≤ 40) (h : mk_K cu ca a = mk_K cu ca b) : a = b := by
  refine mp_ext HA (fun i => mp_ext HU (fun j => ?_))
  by_cases hj : j < 40
  · have h1 := mk_cf HU HA _ a (Nat.le_refl _) ha (40 * i + j)
    have h2 := mk_cf HU HA _ b (Nat.le_refl _) hb (40 * i + j)
    rw [show (40 * i + j) / 40 = i by omega, show (40 * i + j) % 40 = j by omega] at h1 h2
    rw [← h1, h, h2]
  · rw [mp_sz_out HU (Nat.le_trans (mp_xz_row HU HA a i) (by omega)), mp_sz_out HU (Nat.le_trans (mp_xz_row HU HA b i) (by omega))]
theorem mk_sz [Lean.Grind.CommRing U] [Lean.Grind.CommRing A] {cu : U → Nat → FP} {ca : A → Nat → U} (HU : mp_P cu) (HA : mp_P ca) {a : A} {n : Nat} (ha : mp_xz cu ca a ≤ 40) (hn : mp_sz ca a ≤ n) : mp_sz cu (mk_K cu ca a) ≤ 40 * n := mp_sz_le HU (fun j hj => by rw [mk_cf HU HA _ a (Nat.le_refl _) ha, mp_sz_out HA (by omega), mp_zero HU])
/-- the place of the head among 49 -/
noncomputable def mk_h [Lean.Grind.CommRing U] (cu : U → Nat → FP) (ca : A → Nat → U) (a : A) : Nat := 7 * (mp_sz ca a - 1) + (mp_sz cu (mp_lc ca a) - 1)
theorem mk_h_mul [Lean.Grind.CommRing U] [Lean.Grind.CommRing A] {cu : U → Nat → FP} {ca : A → Nat → U} (HU : mp_P cu) (HA : mp_P ca) {a b : A} (ha : a ≠ 0) (hb : b ≠ 0) : mk_h cu ca (a * b) = mk_h cu ca a + mk_h cu ca b := by
  have hR := mp_Fd_nz mp_FP
  have hU := mp_dom HU hR
  obtain ⟨h1, h2⟩ := mp_lc_mul HA hU ha hb
  have h3 := mp_sz_mul HU hR (mp_lc_ne HA ha) (mp_lc_ne HA hb)
  have p1 := mp_sz_pos HA ha
  have p2 := mp_sz_pos HA hb
  have p3 := mp_sz_pos HU (mp_lc_ne HA ha)
  have p4 := mp_sz_pos HU (mp_lc_ne HA hb)
  rw [mk_h, mk_h, mk_h, h2]
  omega
/-- all powers from 0 to 6 -/
def mk_box [Lean.Grind.CommRing U] (cu : U → Nat → FP) (ca : A → Nat → U) (a : A) : Prop := mp_sz ca a ≤ 7 ∧ mp_xz cu ca a ≤ 7
/-- the polynomial with the numbers f, by places 7 i + j -/
noncomputable def mk_of [Lean.Grind.CommRing U] [Lean.Grind.CommRing A] (cu : U → Nat → FP) (ca : A → Nat → U) (f : Nat → FP) : A := mp_mk ca (fun i => if i < 7 then mp_mk cu (fun j => if j < 7 then f (7 * i + j) else 0) else 0)
theorem mk_of_cf [Lean.Grind.CommRing U] [Lean.Grind.CommRing A] {cu : U → Nat → FP} {ca : A → Nat → U} (HU : mp_P cu) (HA : mp_P ca) (f : Nat → FP) (i j : Nat) : cu (ca (mk_of cu ca f) i) j = if i < 7 ∧ j < 7 then f (7 * i + j) else 0 := by
  rw [mk_of, mp_mk_cf HA 7 (fun n hn => if_neg (by omega))]
  by_cases hi : i < 7
  · rw [if_pos hi, mp_mk_cf HU 7 (fun n hn => if_neg (by omega))]
    by_cases hj : j < 7
    · rw [if_pos hj, if_pos ⟨hi, hj⟩]
    · rw [if_neg hj, if_neg (fun q => hj q.2)]
  · rw [if_neg hi, if_neg (fun q => hi q.1), mp_zero HU]
theorem mk_of_box [Lean.Grind.CommRing U] [Lean.Grind.CommRing A] {cu : U → Nat → FP} {ca : A → Nat → U} (HU : mp_P cu) (HA : mp_P ca) (f : Nat → FP) : mk_box cu ca (mk_of cu ca f) := by
  refine ⟨mp_sz_le HA (fun n hn => mp_ext HU (fun j => by rw [mk_of_cf HU HA, if_neg (by omega), mp_zero HU])), mp_xz_le HU HA (fun i => mp_sz_le HU (fun j hj => by rw [mk_of_cf HU HA, if_neg (by omega)]))⟩
theorem mk_of_eq [Lean.Grind.CommRing U] [Lean.Grind.CommRing A] {cu : U → Nat → FP} {ca : A → Nat → U} (HU : mp_P cu) (HA : mp_P ca) {a : A} (h : mk_box cu ca a) : mk_of cu ca (fun k => cu (ca a (k / 7)) (k % 7)) = a := by
  refine mp_ext HA (fun i => mp_ext HU (fun j => ?_))
  rw [mk_of_cf HU HA]
  by_cases hj : j < 7
  · by_cases hi : i < 7
    · rw [if_pos ⟨hi, hj⟩, show (7 * i + j) / 7 = i by omega, show (7 * i + j) % 7 = j by omega]
    · rw [if_neg (fun q => hi q.1), mp_sz_out HA (by have := h.1; omega), mp_zero HU]
  · rw [if_neg (fun q => hj q.2), mp_sz_out HU (Nat.le_trans (mp_xz_row HU HA a i) (by have := h.2; omega))]
theorem mk_h_at [Lean.Grind.CommRing U] [Lean.Grind.CommRing A] {cu : U → Nat → FP} {ca : A → Nat → U} (HU : mp_P cu) (HA : mp_P ca) {a : A} (ha : a ≠ 0) (h : mk_box cu ca a) : mk_h cu ca a < 49 ∧ cu (ca a (mk_h cu ca a / 7)) (mk_h cu ca a % 7) ≠ 0 := by
  have p1 := mp_sz_pos HA ha
  have p3 := mp_sz_pos HU (mp_lc_ne HA ha)
  have p4 : mp_sz cu (mp_lc ca a) ≤ 7 := Nat.le_trans (mp_xz_row HU HA a _) h.2
  have h1 := h.1
  refine ⟨by rw [mk_h]; omega, ?_⟩
  rw [mk_h, show (7 * (mp_sz ca a - 1) + (mp_sz cu (mp_lc ca a) - 1)) / 7 = mp_sz ca a - 1 by omega, show (7 * (mp_sz ca a - 1) + (mp_sz cu (mp_lc ca a) - 1)) % 7 = mp_sz cu (mp_lc ca a) - 1 by omega]
  exact mp_lc_ne HU (mp_lc_ne HA ha)
theorem mk_h_max [Lean.Grind.CommRing U] [Lean.Grind.CommRing A] {cu : U → Nat → FP} {ca : A → Nat → U} (HU : mp_P cu) (HA : mp_P ca) {a : A} (h : mk_box cu ca a) {k : Nat} (hk : cu (ca a (k / 7)) (k % 7) ≠ 0) : k ≤ mk_h cu ca a := by
  have h1 : ca a (k / 7) ≠ 0 := fun e => hk (by rw [e, mp_zero HU])
  have h2 := mp_sz_lt HA h1
  have h3 := mp_sz_lt HU hk
  have h4 := Nat.le_trans (mp_xz_row HU HA a (k / 7)) h.2
  rw [mk_h]
  by_cases e : k / 7 = mp_sz ca a - 1
  · rw [mp_lc, ← e]; omega
  · omega
/-- the columns: even names of a, odd ones of b -/
noncomputable def mk_V [Lean.Grind.CommRing U] [Lean.Grind.CommRing A] (cu : U → Nat → FP) (ca : A → Nat → U) (a b : A) (k : Nat) : U := mp_m cu 1 (40 * (k / 2 / 7) + k / 2 % 7) * mk_K cu ca (if k % 2 = 0 then a else b)
theorem mk_K_mm [Lean.Grind.CommRing U] [Lean.Grind.CommRing A] {cu : U → Nat → FP} {ca : A → Nat → U} (HU : mp_P cu) (HA : mp_P ca) (i : Nat) {j : Nat} (hj : j < 40) : mk_K cu ca (mp_mm cu ca i j) = mp_m cu 1 (40 * i + j) := by
  refine mp_ext HU (fun n => ?_)
  rw [mk_cf HU HA _ _ (Nat.le_refl _) (mp_xz_le HU HA (fun i' => mp_sz_le HU (fun k hk => by rw [mp_mm_cf HU HA, if_neg (by omega)]))), mp_mm_cf HU HA, mp_m_cf HU]
  by_cases h : n = 40 * i + j
  · rw [if_pos h, if_pos (by omega)]
  · rw [if_neg h, if_neg (by omega)]
theorem mk_S2 {R : Type} [Lean.Grind.CommRing R] (f : Nat → R) : ∀ n, mp_S (2 * n) f = mp_S n (fun k => f (2 * k)) + mp_S n (fun k => f (2 * k + 1))
  | 0 => by show (0 : R) = 0 + 0; grind
  | n + 1 => by
    rw [show 2 * (n + 1) = 2 * n + 1 + 1 by omega, mp_S_s, mp_S_s, mk_S2 f n, mp_S_s, mp_S_s]
    grind
theorem mk_of_sum [Lean.Grind.CommRing U] [Lean.Grind.CommRing A] {cu : U → Nat → FP} {ca : A → Nat → U} (HU : mp_P cu) (HA : mp_P ca) (f : Nat → FP) : mk_of cu ca f = mp_S 49 (fun k => mp_C ca (mp_C cu (f k)) * mp_mm cu ca (k / 7) (k % 7)) := by
  refine mp_ext HA (fun i => mp_ext HU (fun j => ?_))
  rw [mk_of_cf HU HA, mp_sum HA, mp_sum HU]
  by_cases h : i < 7 ∧ j < 7
  · rw [if_pos h, mp_S_one (k := 7 * i + j) (by omega) (fun k hk hki => by rw [mp_CC_mul HU HA, mp_mm_cf HU HA, if_neg (by omega)]; grind), mp_CC_mul HU HA, mp_mm_cf HU HA, if_pos (by omega)]
    grind
  · rw [if_neg h]
    exact (mp_S_zero (fun k hk => by rw [mp_CC_mul HU HA, mp_mm_cf HU HA, if_neg (by omega)]; grind)).symm
/-- numbers of the columns that make 0: a pair that crosses out -/
theorem mk_cross [Lean.Grind.CommRing U] [Lean.Grind.CommRing A] {cu : U → Nat → FP} {ca : A → Nat → U} (HU : mp_P cu) (HA : mp_P ca) {a b : A} (hb : b ≠ 0) (ha1 : mp_xz cu ca a ≤ 34) (hb1 : mp_xz cu ca b ≤ 34) (f : Nat → FP) : mp_S 98 (fun k => mp_C cu (f k) * mk_V cu ca a b k) = 0 ↔ mk_of cu ca (fun k => f (2 * k)) * a = mk_of cu ca (fun k => -f (2 * k + 1)) * b := by
  have hU := mp_dom HU (mp_Fd_nz mp_FP)
  have hAd := mp_dom HA hU
  have hx : ∀ (f : Nat → FP) (c : A), mp_xz cu ca c ≤ 34 → mp_xz cu ca (mk_of cu ca f * c) ≤ 40 := by
    intro f c hc
    have h1 := (mk_of_box HU HA f).2
    by_cases h0 : mk_of cu ca f = 0
    · rw [h0, show (0 : A) * c = 0 by grind]
      rw [show mp_xz cu ca (0 : A) = 0 from (mp_sz_0 (mp_sw_P HU HA)).mpr rfl]
      omega
    · by_cases hc0 : c = 0
      · rw [hc0, show mk_of cu ca f * 0 = 0 by grind, show mp_xz cu ca (0 : A) = 0 from (mp_sz_0 (mp_sw_P HU HA)).mpr rfl]
        omega
      · have := mp_xz_mul mp_FP HU HA h0 hc0
        omega
  have hK : ∀ (f : Nat → FP) (c : A), mk_K cu ca (mk_of cu ca f * c) = mp_S 49 (fun k => mp_C cu (f k) * (mp_m cu 1 (40 * (k / 7) + k % 7) * mk_K cu ca c)) := by
    intro f c
    rw [mk_K, mp_e_mul HA hU, mk_of_sum HU HA, mp_e_S HA hU, ← mp_S_mulr]
    refine mp_S_cong (fun k _ => ?_)
    rw [mp_e_mul HA hU, mp_e_C HA hU]
    have := mk_K_mm HU HA (k / 7) (j := k % 7) (by omega)
    rw [mk_K] at this
    rw [this, mk_K]
    grind
  have e1 : mp_S 98 (fun k => mp_C cu (f k) * mk_V cu ca a b k) = mk_K cu ca (mk_of cu ca (fun k => f (2 * k)) * a) - mk_K cu ca (mk_of cu ca (fun k => -f (2 * k + 1)) * b) := by
    rw [show 98 = 2 * 49 from rfl, mk_S2, hK, hK]
    have h1 : mp_S 49 (fun k => mp_C cu (f (2 * k)) * mk_V cu ca a b (2 * k)) = mp_S 49 (fun k => mp_C cu (f (2 * k)) * (mp_m cu 1 (40 * (k / 7) + k % 7) * mk_K cu ca a)) := mp_S_cong (fun k _ => by
      rw [mk_V, show 2 * k / 2 = k by omega, if_pos (by omega)])
    have h2 : mp_S 49 (fun k => mp_C cu (f (2 * k + 1)) * mk_V cu ca a b (2 * k + 1)) = mp_S 49 (fun k => (-1) * (mp_C cu (-f (2 * k + 1)) * (mp_m cu 1 (40 * (k / 7) + k % 7) * mk_K cu ca b))) := mp_S_cong (fun k _ => by
      rw [mk_V, show (2 * k + 1) / 2 = k by omega, if_neg (by omega), mp_C_neg HU]
      grind)
    rw [h1, h2, mp_S_mul]
    grind
  rw [e1]
  constructor
  · intro h
    exact mk_inj HU HA (hx _ _ ha1) (hx _ _ hb1) (by grind)
  · intro h
    rw [h]
    grind
/-- what reduce finds -/
theorem mk_true [Lean.Grind.CommRing U] [Lean.Grind.CommRing A] {cu : U → Nat → FP} {ca : A → Nat → U} (HU : mp_P cu) (HA : mp_P ca) {a b p q : A} (hb : b ≠ 0) (ha1 : mp_xz cu ca a ≤ 34) (hb1 : mp_xz cu ca b ≤ 34) (hl : mp_LT a b p q) {f : Nat → FP} {n : Nat} (hn : n < 98) (hf1 : f n ≠ 0) (hf2 : ∀ k, n < k → k < 98 → f k = 0) (hf : mp_S 98 (fun k => mp_C cu (f k) * mk_V cu ca a b k) = 0)
    (hi : ∀ c : Nat → FP, mp_S n (fun k => mp_C cu (c k) * mk_V cu ca a b k) = 0 → ∀ k, k < n → c k = 0) :
    ∃ r : FP, r ≠ 0 ∧ mk_of cu ca (fun k => f (2 * k)) = mp_C ca (mp_C cu r) * q ∧ mk_of cu ca (fun k => -f (2 * k + 1)) = mp_C ca (mp_C cu r) * p ∧ mk_box cu ca p ∧ mk_box cu ca q := by
  have hU := mp_dom HU (mp_Fd_nz mp_FP)
  have hAd := mp_dom HA hU
  obtain ⟨s, h1, h2⟩ := hl.2.2 _ _ ((mk_cross HU HA hb ha1 hb1 f).mp hf)
  have b1 := mk_of_box HU HA (cu := cu) (ca := ca) (fun k => f (2 * k))
  have b2 := mk_of_box HU HA (cu := cu) (ca := ca) (fun k => -f (2 * k + 1))
  have g1 : ∀ k, k < 49 → cu (ca (mk_of cu ca (fun k => f (2 * k))) (k / 7)) (k % 7) = f (2 * k) := fun k hk => by rw [mk_of_cf HU HA, if_pos (by omega), show 7 * (k / 7) + k % 7 = k by omega]
  have g2 : ∀ k, k < 49 → cu (ca (mk_of cu ca (fun k => -f (2 * k + 1))) (k / 7)) (k % 7) = -f (2 * k + 1) := fun k hk => by rw [mk_of_cf HU HA, if_pos (by omega), show 7 * (k / 7) + k % 7 = k by omega]
  have hs0 : s ≠ 0 := by
    intro e
    have z1 : mk_of cu ca (fun k => f (2 * k)) = 0 := by rw [h1, e]; grind
    have z2 : mk_of cu ca (fun k => -f (2 * k + 1)) = 0 := by rw [h2, e]; grind
    by_cases hp : n % 2 = 0
    · have := g1 (n / 2) (by omega)
      rw [z1, mp_zero HA, mp_zero HU, show 2 * (n / 2) = n by omega] at this
      exact hf1 this.symm
    · have := g2 (n / 2) (by omega)
      rw [z2, mp_zero HA, mp_zero HU, show 2 * (n / 2) + 1 = n by omega] at this
      exact hf1 (by grind)
  have hq0 := hl.1
  have bq : mk_box cu ca q := ⟨Nat.le_trans (mp_D_sz HA hU ⟨s, h1⟩ (by rw [h1]; exact mp_nz_mul hAd hq0 hs0)) b1.1, Nat.le_trans (mp_D_sz (mp_sw_P HU HA) hU ⟨s, h1⟩ (by rw [h1]; exact mp_nz_mul hAd hq0 hs0)) b1.2⟩
  have bp : mk_box cu ca p := by
    by_cases hp0 : p = 0
    · rw [hp0]
      exact ⟨by rw [(mp_sz_0 HA).mpr rfl]; omega, by rw [show mp_xz cu ca (0 : A) = 0 from (mp_sz_0 (mp_sw_P HU HA)).mpr rfl]; omega⟩
    · exact ⟨Nat.le_trans (mp_D_sz HA hU ⟨s, h2⟩ (by rw [h2]; exact mp_nz_mul hAd hp0 hs0)) b2.1, Nat.le_trans (mp_D_sz (mp_sw_P HU HA) hU ⟨s, h2⟩ (by rw [h2]; exact mp_nz_mul hAd hp0 hs0)) b2.2⟩
  have hsz : mk_h cu ca s = 0 := by
    refine Classical.byContradiction (fun hne => ?_)
    let c : Nat → FP := fun k => if k % 2 = 0 then cu (ca q (k / 2 / 7)) (k / 2 % 7) else -cu (ca p (k / 2 / 7)) (k / 2 % 7)
    have c1 : mk_of cu ca (fun k => c (2 * k)) = q := by
      have : (fun k => c (2 * k)) = fun k => cu (ca q (k / 7)) (k % 7) := funext (fun k => by
        show (if 2 * k % 2 = 0 then cu (ca q (2 * k / 2 / 7)) (2 * k / 2 % 7) else _) = _
        rw [if_pos (by omega), show 2 * k / 2 = k by omega])
      rw [this, mk_of_eq HU HA bq]
    have c2 : mk_of cu ca (fun k => -c (2 * k + 1)) = p := by
      have : (fun k => -c (2 * k + 1)) = fun k => cu (ca p (k / 7)) (k % 7) := funext (fun k => by
        show -(if (2 * k + 1) % 2 = 0 then _ else -cu (ca p ((2 * k + 1) / 2 / 7)) ((2 * k + 1) / 2 % 7)) = _
        rw [if_neg (by omega), show (2 * k + 1) / 2 = k by omega]
        grind)
      rw [this, mk_of_eq HU HA bp]
    have hz : ∀ k, n ≤ k → k < 98 → c k = 0 := by
      intro k hk1 hk2
      refine Classical.byContradiction (fun hck => ?_)
      by_cases hp : k % 2 = 0
      · have e1 : c k = cu (ca q (k / 2 / 7)) (k / 2 % 7) := if_pos hp
        rw [e1] at hck
        have m1 := mk_h_max HU HA bq hck
        have m2 := mk_h_mul HU HA hq0 hs0
        rw [← h1] at m2
        obtain ⟨m3, m4⟩ := mk_h_at HU HA (by rw [h1]; exact mp_nz_mul hAd hq0 hs0) b1
        rw [g1 _ m3] at m4
        exact m4 (hf2 _ (by omega) (by omega))
      · have e1 : c k = -cu (ca p (k / 2 / 7)) (k / 2 % 7) := if_neg hp
        have hck2 : cu (ca p (k / 2 / 7)) (k / 2 % 7) ≠ 0 := fun z => hck (by rw [e1, z]; grind)
        have hp0 : p ≠ 0 := fun z => hck2 (by rw [z, mp_zero HA, mp_zero HU])
        have m1 := mk_h_max HU HA bp hck2
        have m2 := mk_h_mul HU HA hp0 hs0
        rw [← h2] at m2
        obtain ⟨m3, m4⟩ := mk_h_at HU HA (by rw [h2]; exact mp_nz_mul hAd hp0 hs0) b2
        rw [g2 _ m3] at m4
        exact m4 (by rw [hf2 _ (by omega) (by omega)]; grind)
    have hsum := (mk_cross HU HA hb ha1 hb1 c).mpr (by rw [c1, c2]; exact hl.2.1)
    rw [mp_S_more (n := n) (by omega) (fun k hk1 hk2 => by rw [hz k hk1 hk2, mp_C_0 HU]; grind)] at hsum
    have hall := hi c hsum
    obtain ⟨m3, m4⟩ := mk_h_at HU HA hq0 bq
    have e1 : c (2 * mk_h cu ca q) = cu (ca q (mk_h cu ca q / 7)) (mk_h cu ca q % 7) := by
      show (if 2 * mk_h cu ca q % 2 = 0 then cu (ca q (2 * mk_h cu ca q / 2 / 7)) (2 * mk_h cu ca q / 2 % 7) else _) = _
      rw [if_pos (by omega), show 2 * mk_h cu ca q / 2 = mk_h cu ca q by omega]
    refine m4 (e1.symm.trans ?_)
    by_cases hlt : 2 * mk_h cu ca q < n
    · exact hall _ hlt
    · exact hz _ (by omega) (by omega)
  have p1 := mp_sz_pos HA hs0
  have p3 := mp_sz_pos HU (mp_lc_ne HA hs0)
  obtain ⟨r, hr0, hr⟩ := mp_mu_U mp_FP HU HA hs0 (by rw [mk_h] at hsz; rw [mp_mu]; omega)
  exact ⟨r, hr0, by rw [h1, hr]; grind, by rw [h2, hr]; grind, bp, bq⟩
/-- where reduce finds nothing it is too great -/
theorem mk_false [Lean.Grind.CommRing U] [Lean.Grind.CommRing A] {cu : U → Nat → FP} {ca : A → Nat → U} (HU : mp_P cu) (HA : mp_P ca) {a b p q : A} (hb : b ≠ 0) (ha1 : mp_xz cu ca a ≤ 34) (hb1 : mp_xz cu ca b ≤ 34) (hl : mp_LT a b p q)
    (hi : ∀ c : Nat → FP, mp_S 98 (fun k => mp_C cu (c k) * mk_V cu ca a b k) = 0 → ∀ k, k < 98 → c k = 0) : ¬ (mk_box cu ca p ∧ mk_box cu ca q) := by
  rintro ⟨bp, bq⟩
  let c : Nat → FP := fun k => if k % 2 = 0 then cu (ca q (k / 2 / 7)) (k / 2 % 7) else -cu (ca p (k / 2 / 7)) (k / 2 % 7)
  have c1 : mk_of cu ca (fun k => c (2 * k)) = q := by
    have : (fun k => c (2 * k)) = fun k => cu (ca q (k / 7)) (k % 7) := funext (fun k => by
      show (if 2 * k % 2 = 0 then cu (ca q (2 * k / 2 / 7)) (2 * k / 2 % 7) else _) = _
      rw [if_pos (by omega), show 2 * k / 2 = k by omega])
    rw [this, mk_of_eq HU HA bq]
  have c2 : mk_of cu ca (fun k => -c (2 * k + 1)) = p := by
    have : (fun k => -c (2 * k + 1)) = fun k => cu (ca p (k / 7)) (k % 7) := funext (fun k => by
      show -(if (2 * k + 1) % 2 = 0 then _ else -cu (ca p ((2 * k + 1) / 2 / 7)) ((2 * k + 1) / 2 % 7)) = _
      rw [if_neg (by omega), show (2 * k + 1) / 2 = k by omega]
      grind)
    rw [this, mk_of_eq HU HA bp]
  have hall := hi c ((mk_cross HU HA hb ha1 hb1 c).mpr (by rw [c1, c2]; exact hl.2.1))
  obtain ⟨m3, m4⟩ := mk_h_at HU HA hl.1 bq
  have e1 : c (2 * mk_h cu ca q) = cu (ca q (mk_h cu ca q / 7)) (mk_h cu ca q % 7) := by
    show (if 2 * mk_h cu ca q % 2 = 0 then cu (ca q (2 * mk_h cu ca q / 2 / 7)) (2 * mk_h cu ca q / 2 % 7) else _) = _
    rw [if_pos (by omega), show 2 * mk_h cu ca q / 2 = mk_h cu ca q by omega]
  exact m4 (e1.symm.trans (hall _ (by omega)))
end
