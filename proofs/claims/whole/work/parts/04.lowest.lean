/-! two letters: lowest terms, common divisors, primes -/
def mp_LT {A : Type} [Lean.Grind.CommRing A] (a b p q : A) : Prop := q ≠ 0 ∧ q * a = p * b ∧ ∀ p' q' : A, q' * a = p' * b → ∃ s, q' = q * s ∧ p' = p * s
def mp_G {A : Type} [Lean.Grind.CommRing A] (a b g : A) : Prop := mp_D g a ∧ mp_D g b ∧ ∀ d, mp_D d a → mp_D d b → mp_D d g
/-- only units divide both -/
def mp_Cp {A : Type} [Lean.Grind.CommRing A] (a b : A) : Prop := ∀ d, mp_D d a → mp_D d b → mp_U d
section
variable {R U A : Type}
theorem mp_strip [Lean.Grind.CommRing R] [Lean.Grind.CommRing U] [Lean.Grind.CommRing A] {cu : U → Nat → R} {ca : A → Nat → U} (hF : mp_Fd R) (HU : mp_P cu) (HA : mp_P ca) {p q : A} (hp : ∀ x : U, mp_Irr x → ¬ (mp_D (mp_C ca x) q ∧ mp_D (mp_C ca x) p)) : ∀ (n : Nat) (c : U) (s q' p' : A), mp_sz cu c ≤ n → c ≠ 0 → mp_C ca c * q' = q * s → mp_C ca c * p' = p * s → ∃ s', q' = q * s' ∧ p' = p * s' := by
  have hU := mp_dom HU (mp_Fd_nz hF)
  have hAd := mp_dom HA hU
  intro n
  induction n with
  | zero => intro c s q' p' h1 h2; exact absurd ((mp_sz_0 HU).mp (by omega)) h2
  | succ n ih =>
    intro c s q' p' h1 h2 h3 h4
    by_cases hu : mp_sz cu c = 1
    · obtain ⟨d, hd⟩ := mp_U_F HU hF hu
      have hcd : mp_C ca d * mp_C ca c = 1 := by rw [← mp_C_mulC HA, show d * c = 1 by grind, mp_C_1 HA]
      exact ⟨mp_C ca d * s, by grind, by grind⟩
    · have := mp_sz_pos HU h2
      obtain ⟨x, hx1, e, he⟩ := mp_irr_ex HU hF _ c (Nat.le_refl _) (by omega)
      have hx := mp_prF HU hF hx1
      have hce : mp_C ca c = mp_C ca x * mp_C ca e := by rw [he, mp_C_mulC HA]
      have hs : mp_D (mp_C ca x) s := by
        have g1 : mp_D (mp_C ca x) (q * s) := by rw [← h3, hce]; exact ⟨mp_C ca e * q', by grind⟩
        have g2 : mp_D (mp_C ca x) (p * s) := by rw [← h4, hce]; exact ⟨mp_C ca e * p', by grind⟩
        rcases mp_gauss HA hx.2.2 g1 with k1 | k1
        · rcases mp_gauss HA hx.2.2 g2 with k2 | k2
          · exact absurd ⟨k1, k2⟩ (hp x hx1)
          · exact k2
        · exact k1
      obtain ⟨s1, hs1⟩ := hs
      have he0 : e ≠ 0 := fun z => h2 (by rw [he, z]; grind)
      have hx0 : mp_C ca x ≠ 0 := mp_C_ne HA hx1.1
      have hsz := mp_sz_mul HU (mp_Fd_nz hF) hx1.1 he0
      rw [← he] at hsz
      have hx2 : 2 ≤ mp_sz cu x := by
        rcases Nat.lt_or_ge (mp_sz cu x) 2 with z | z
        · have := mp_sz_pos HU hx1.1
          exact absurd (mp_U_F HU hF (by omega)) hx1.2.1
        · exact z
      refine ih e s1 q' p' (by omega) he0 (mp_cancel hAd hx0 ?_) (mp_cancel hAd hx0 ?_)
      · clear ih; grind
      · clear ih; grind
theorem mp_lt_ex [Lean.Grind.CommRing R] [Lean.Grind.CommRing U] [Lean.Grind.CommRing A] {cu : U → Nat → R} {ca : A → Nat → U} (hF : mp_Fd R) (HU : mp_P cu) (HA : mp_P ca) (a : A) {b : A} (hb : b ≠ 0) : ∃ p q, mp_LT a b p q := by
  have hU := mp_dom HU (mp_Fd_nz hF)
  have hAd := mp_dom HA hU
  obtain ⟨n, ⟨q1, p1, hq1, hn1, he1⟩, hmin⟩ := mp_least (fun n => ∃ q p : A, q ≠ 0 ∧ mp_sz ca q = n ∧ q * a = p * b) _ ⟨b, a, hb, rfl, by grind⟩
  obtain ⟨k, ⟨q, p, hq, hn, he, hk⟩, hmin2⟩ := mp_least (fun k => ∃ q p : A, q ≠ 0 ∧ mp_sz ca q = n ∧ q * a = p * b ∧ mp_sz cu (mp_lc ca q) = k) _ ⟨q1, p1, hq1, hn1, he1, rfl⟩
  have prim : ∀ x : U, mp_Irr x → ¬ (mp_D (mp_C ca x) q ∧ mp_D (mp_C ca x) p) := by
    rintro x hx ⟨⟨q2, hq2⟩, ⟨p2, hp2⟩⟩
    have hx0 : mp_C ca x ≠ 0 := mp_C_ne HA hx.1
    have hq0 : q2 ≠ 0 := fun z => hq (by rw [hq2, z]; grind)
    have e2 : q2 * a = p2 * b := mp_cancel hAd hx0 (by grind)
    have hs := mp_sz_Cmul HA hU hx.1 q2
    rw [← hq2] at hs
    have hl := (mp_lc_mul HA hU hx0 hq0).2
    rw [← hq2] at hl
    have hlx : mp_lc ca (mp_C ca x) = x := by rw [mp_lc, mp_sz_CE HA hx.1, mp_C_cf HA]; rfl
    rw [hlx] at hl
    have hl2 := mp_sz_mul HU (mp_Fd_nz hF) hx.1 (mp_lc_ne HA hq0)
    rw [← hl, hk] at hl2
    have hx2 : 2 ≤ mp_sz cu x := by
      rcases Nat.lt_or_ge (mp_sz cu x) 2 with z | z
      · have := mp_sz_pos HU hx.1
        exact absurd (mp_U_F HU hF (by omega)) hx.2.1
      · exact z
    have := hmin2 _ ⟨q2, p2, hq0, by omega, e2, rfl⟩
    omega
  refine ⟨p, q, hq, he, fun p' q' h => ?_⟩
  obtain ⟨c, s, r, h1, h2, h3⟩ := mp_div HA hU hq _ q' (Nat.le_refl _)
  have h4 : r * a = (mp_C ca c * p' - s * p) * b := by grind
  have h5 : r = 0 := by
    by_cases hr : r = 0
    · exact hr
    · have := hmin _ ⟨r, _, hr, rfl, h4⟩
      omega
  rw [h5] at h4 h2
  have h6 : mp_C ca c * p' - s * p = 0 := by
    rcases hAd.1 (mp_C ca c * p' - s * p) b (by grind) with z | z
    · exact z
    · exact absurd z hb
  exact mp_strip hF HU HA prim _ c s q' p' (Nat.le_refl _) h1 (by grind) (by grind)
/-- what was divided out -/
theorem mp_lt_g [Lean.Grind.CommRing A] (hAd : mp_NZ A) {a b p q : A} (hb : b ≠ 0) (h : mp_LT a b p q) : ∃ g, g ≠ 0 ∧ a = p * g ∧ b = q * g ∧ mp_G a b g := by
  obtain ⟨hq, he, hg⟩ := h
  obtain ⟨g, h1, h2⟩ := hg a b (by grind)
  refine ⟨g, fun z => hb (by rw [h1, z]; grind), h2, h1, ⟨p, by grind⟩, ⟨q, by grind⟩, ?_⟩
  rintro d ⟨x, hx⟩ ⟨y, hy⟩
  have hd : d ≠ 0 := fun z => hb (by rw [hy, z]; grind)
  obtain ⟨s, h3, h4⟩ := hg x y (by grind)
  have hq0 : q * g = q * (d * s) := by rw [← h1, hy, h3]; grind
  exact ⟨s, mp_cancel hAd hq hq0⟩
theorem mp_g_ex [Lean.Grind.CommRing R] [Lean.Grind.CommRing U] [Lean.Grind.CommRing A] {cu : U → Nat → R} {ca : A → Nat → U} (hF : mp_Fd R) (HU : mp_P cu) (HA : mp_P ca) (a b : A) : ∃ g, mp_G a b g := by
  by_cases hb : b = 0
  · exact ⟨a, mp_D_rf a, by rw [hb]; exact mp_D_0 a, fun d h _ => h⟩
  · obtain ⟨p, q, h⟩ := mp_lt_ex hF HU HA a hb
    obtain ⟨g, -, -, -, h2⟩ := mp_lt_g (mp_dom HA (mp_dom HU (mp_Fd_nz hF))) hb h
    exact ⟨g, h2⟩
/-- where only units divide both, they are in lowest terms -/
theorem mp_cp_lt [Lean.Grind.CommRing R] [Lean.Grind.CommRing U] [Lean.Grind.CommRing A] {cu : U → Nat → R} {ca : A → Nat → U} (hF : mp_Fd R) (HU : mp_P cu) (HA : mp_P ca) {p q : A} (hq : q ≠ 0) (h : mp_Cp p q) : mp_LT p q p q := by
  obtain ⟨p0, q0, hl⟩ := mp_lt_ex hF HU HA p hq
  obtain ⟨g, hg0, h1, h2, -⟩ := mp_lt_g (mp_dom HA (mp_dom HU (mp_Fd_nz hF))) hq hl
  obtain ⟨u, hu⟩ := h g ⟨p0, by grind⟩ ⟨q0, by grind⟩
  refine ⟨hq, by grind, fun p' q' e => ?_⟩
  obtain ⟨s, h3, h4⟩ := hl.2.2 p' q' e
  exact ⟨u * s, by grind, by grind⟩
theorem mp_lt_cp [Lean.Grind.CommRing A] (hAd : mp_NZ A) {a b p q : A} (hb : b ≠ 0) (h : mp_LT a b p q) : mp_Cp p q := by
  obtain ⟨g, hg0, h1, h2, hG⟩ := mp_lt_g hAd hb h
  rintro d ⟨x, hx⟩ ⟨y, hy⟩
  obtain ⟨z, hz⟩ := hG.2.2 (d * g) ⟨x, by grind⟩ ⟨y, by grind⟩
  exact ⟨z, mp_cancel hAd hg0 (by grind)⟩
theorem mp_cp_sym [Lean.Grind.CommRing A] {p q : A} (h : mp_Cp p q) : mp_Cp q p := fun d h1 h2 => h d h2 h1
theorem mp_euclid [Lean.Grind.CommRing R] [Lean.Grind.CommRing U] [Lean.Grind.CommRing A] {cu : U → Nat → R} {ca : A → Nat → U} (hF : mp_Fd R) (HU : mp_P cu) (HA : mp_P ca) {p q r : A} (hq : q ≠ 0) (h : mp_Cp p q) (h2 : mp_D q (p * r)) : mp_D q r := by
  obtain ⟨w, hw⟩ := h2
  obtain ⟨s, h3, -⟩ := (mp_cp_lt hF HU HA hq h).2.2 w r (by grind)
  exact ⟨s, h3⟩
theorem mp_prA [Lean.Grind.CommRing R] [Lean.Grind.CommRing U] [Lean.Grind.CommRing A] {cu : U → Nat → R} {ca : A → Nat → U} (hF : mp_Fd R) (HU : mp_P cu) (HA : mp_P ca) {d : A} (h : mp_Irr d) : mp_Pr d := by
  refine ⟨h.1, h.2.1, fun f g hfg => ?_⟩
  by_cases hf : mp_D d f
  · exact Or.inl hf
  · refine Or.inr (mp_euclid hF HU HA h.1 (p := f) (fun e h1 h2 => ?_) hfg)
    rcases h.2.2 e h2 with z | z
    · exact z
    · exact absurd (mp_D_tr z h1) hf
/-- the size in both letters -/
noncomputable def mp_mu [Lean.Grind.CommRing R] [Lean.Grind.CommRing U] (cu : U → Nat → R) (ca : A → Nat → U) (a : A) : Nat := mp_sz ca a + mp_sz cu (mp_lc ca a)
theorem mp_mu_mul [Lean.Grind.CommRing R] [Lean.Grind.CommRing U] [Lean.Grind.CommRing A] {cu : U → Nat → R} {ca : A → Nat → U} (hF : mp_Fd R) (HU : mp_P cu) (HA : mp_P ca) {a b : A} (ha : a ≠ 0) (hb : b ≠ 0) : mp_mu cu ca (a * b) + 2 = mp_mu cu ca a + mp_mu cu ca b := by
  have hU := mp_dom HU (mp_Fd_nz hF)
  obtain ⟨h1, h2⟩ := mp_lc_mul HA hU ha hb
  have h3 := mp_sz_mul HU (mp_Fd_nz hF) (mp_lc_ne HA ha) (mp_lc_ne HA hb)
  rw [← h2] at h3
  simp only [mp_mu]
  omega
theorem mp_mu_2 [Lean.Grind.CommRing R] [Lean.Grind.CommRing U] [Lean.Grind.CommRing A] {cu : U → Nat → R} {ca : A → Nat → U} (HU : mp_P cu) (HA : mp_P ca) {a : A} (ha : a ≠ 0) : 2 ≤ mp_mu cu ca a := by
  have h1 := mp_sz_pos HA ha
  have h2 := mp_sz_pos HU (mp_lc_ne HA ha)
  simp only [mp_mu]
  omega
theorem mp_mu_U [Lean.Grind.CommRing R] [Lean.Grind.CommRing U] [Lean.Grind.CommRing A] {cu : U → Nat → R} {ca : A → Nat → U} (hF : mp_Fd R) (HU : mp_P cu) (HA : mp_P ca) {a : A} (ha : a ≠ 0) (h : mp_mu cu ca a = 2) : ∃ r : R, r ≠ 0 ∧ a = mp_C ca (mp_C cu r) := by
  have h1 := mp_sz_pos HA ha
  have h2 := mp_sz_pos HU (mp_lc_ne HA ha)
  simp only [mp_mu] at h
  have h3 : mp_sz ca a = 1 := by omega
  have h4 : mp_sz cu (mp_lc ca a) = 1 := by omega
  have h5 : mp_lc ca a = ca a 0 := by rw [mp_lc, h3]
  rw [h5] at h4
  refine ⟨cu (ca a 0) 0, mp_sz_top HU h4, ?_⟩
  rw [← mp_sz_1 HU (Nat.le_of_eq h4)]
  exact mp_sz_1 HA (Nat.le_of_eq h3)
theorem mp_CC_U [Lean.Grind.CommRing R] [Lean.Grind.CommRing U] [Lean.Grind.CommRing A] {cu : U → Nat → R} {ca : A → Nat → U} (hF : mp_Fd R) (HU : mp_P cu) (HA : mp_P ca) {r : R} (h : r ≠ 0) : mp_U (mp_C ca (mp_C cu r)) := mp_U_C HA (mp_U_C HU (hF.1 r h))
theorem mp_U_mu [Lean.Grind.CommRing R] [Lean.Grind.CommRing U] [Lean.Grind.CommRing A] {cu : U → Nat → R} {ca : A → Nat → U} (hF : mp_Fd R) (HU : mp_P cu) (HA : mp_P ca) {a : A} (h : mp_U a) : mp_mu cu ca a = 2 := by
  have hU := mp_dom HU (mp_Fd_nz hF)
  have hAd := mp_dom HA hU
  obtain ⟨c, hc⟩ := h
  have ha : a ≠ 0 := fun e => hAd.2 (by rw [← hc, e]; grind)
  have hc0 : c ≠ 0 := fun e => hAd.2 (by rw [← hc, e]; grind)
  have h1 := mp_mu_mul hF HU HA ha hc0
  rw [hc] at h1
  have h2 := mp_mu_2 HU HA ha
  have h3 := mp_mu_2 HU HA hc0
  have h4 : mp_mu cu ca (1 : A) = 2 := by
    have e1 : mp_sz ca (1 : A) = 1 := by rw [← mp_C_1 HA]; exact mp_sz_CE HA hU.2
    have e2 : mp_sz cu (1 : U) = 1 := by rw [← mp_C_1 HU]; exact mp_sz_CE HU hF.2
    rw [mp_mu, mp_lc, e1]
    rw [show ca (1 : A) (1 - 1) = 1 by rw [mp_one HA]; rfl, e2]
  omega
theorem mp_unit [Lean.Grind.CommRing R] [Lean.Grind.CommRing U] [Lean.Grind.CommRing A] {cu : U → Nat → R} {ca : A → Nat → U} (hF : mp_Fd R) (HU : mp_P cu) (HA : mp_P ca) {a : A} (h : mp_U a) : ∃ r : R, r ≠ 0 ∧ a = mp_C ca (mp_C cu r) := by
  have hAd := mp_dom HA (mp_dom HU (mp_Fd_nz hF))
  refine mp_mu_U hF HU HA (fun e => ?_) (mp_U_mu hF HU HA h)
  obtain ⟨c, hc⟩ := h
  exact hAd.2 (by rw [← hc, e]; grind)
theorem mp_irrA [Lean.Grind.CommRing R] [Lean.Grind.CommRing U] [Lean.Grind.CommRing A] {cu : U → Nat → R} {ca : A → Nat → U} (hF : mp_Fd R) (HU : mp_P cu) (HA : mp_P ca) : ∀ (n : Nat) (a : A), mp_mu cu ca a ≤ n → a ≠ 0 → ¬ mp_U a → ∃ d, mp_Irr d ∧ mp_D d a := by
  intro n
  induction n with
  | zero => intro a h1 h2; have := mp_mu_2 HU HA h2; omega
  | succ n ih =>
    intro a h1 h2 h3
    by_cases hi : ∀ d, mp_D d a → mp_U d ∨ mp_D a d
    · exact ⟨a, ⟨h2, h3, hi⟩, mp_D_rf a⟩
    · obtain ⟨d, hd⟩ := Classical.not_forall.mp hi
      obtain ⟨hd1, hd2⟩ := Classical.not_imp.mp hd
      have hd3 : ¬ mp_U d := fun q => hd2 (Or.inl q)
      have hd4 : ¬ mp_D a d := fun q => hd2 (Or.inr q)
      obtain ⟨e, he⟩ := id hd1
      have hd0 : d ≠ 0 := fun z => h2 (by rw [he, z]; grind)
      have he0 : e ≠ 0 := fun z => h2 (by rw [he, z]; grind)
      have hm := mp_mu_mul hF HU HA hd0 he0
      rw [← he] at hm
      have he3 : mp_mu cu ca e ≠ 2 := fun z => by
        obtain ⟨r, hr, hr2⟩ := mp_mu_U hF HU HA he0 z
        obtain ⟨y, hy⟩ := mp_CC_U hF HU HA hr
        rw [← hr2] at hy
        exact hd4 ⟨y, by rw [he]; clear ih; grind⟩
      have := mp_mu_2 HU HA he0
      obtain ⟨p, hp1, hp2⟩ := ih d (by omega) hd0 hd3
      exact ⟨p, hp1, mp_D_tr hp2 hd1⟩
/-- a common divisor that isn't a unit has a prime one -/
theorem mp_ncp [Lean.Grind.CommRing R] [Lean.Grind.CommRing U] [Lean.Grind.CommRing A] {cu : U → Nat → R} {ca : A → Nat → U} (hF : mp_Fd R) (HU : mp_P cu) (HA : mp_P ca) {a b : A} (hb : b ≠ 0) (h : ∀ d, mp_Pr d → mp_D d a → mp_D d b → False) : mp_Cp a b := by
  intro d h1 h2
  refine Classical.byContradiction (fun hu => ?_)
  have hd0 : d ≠ 0 := fun z => by obtain ⟨e, he⟩ := h2; exact hb (by rw [he, z]; grind)
  obtain ⟨p, hp1, hp2⟩ := mp_irrA hF HU HA _ d (Nat.le_refl _) hd0 hu
  exact h p (mp_prA hF HU HA hp1) (mp_D_tr hp2 h1) (mp_D_tr hp2 h2)
end
