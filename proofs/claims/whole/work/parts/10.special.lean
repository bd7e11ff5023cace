/-! the special part: t alone, of an exponential; nothing, of a logarithm -/
section
variable {U A : Type}
theorem me_n_ne [Lean.Grind.CommRing U] {cu : U → Nat → FP} (HU : mp_P cu) {n : Nat} (h0 : 0 < n) (h : n < 32003) : mp_U (mr_nR (R := U) n) := by
  rw [mr_nR_C HU, mr_nR_FP]
  exact mp_U_C HU (mp_FP.1 _ (mf_n_ne h0 h))
theorem me_pr_U [Lean.Grind.CommRing U] {x y : U} (hx : mp_Pr x) (h : mp_U y) : ¬ mp_D x y := fun q => hx.2.1 (mp_U_of_D q h)
/-- a prime doesn't divide its derivation -/
theorem me_pr_d [Lean.Grind.CommRing U] {cu : U → Nat → FP} (HU : mp_P cu) {x : U} (hx : mp_Pr x) (hs : mp_sz cu x ≤ 32003) : ¬ mp_D x (md_d cu x) := by
  intro h
  have hR := mp_Fd_nz mp_FP
  have h0 := mp_sz_pos HU hx.1
  have h2 : 2 ≤ mp_sz cu x := by
    rcases Nat.lt_or_ge (mp_sz cu x) 2 with q | q
    · exact absurd (mp_U_F HU mp_FP (by omega)) hx.2.1
    · exact q
  obtain ⟨m, hm⟩ : ∃ m, mp_sz cu x = m + 2 := ⟨mp_sz cu x - 2, by omega⟩
  have h3 : cu (md_d cu x) m ≠ 0 := by
    rw [md_cf HU, mr_nR_FP]
    exact mp_nz_mul hR (mf_n_ne (by omega) (by omega)) (mp_sz_top HU hm)
  have h4 : md_d cu x ≠ 0 := fun e => h3 (by rw [e, mp_zero HU])
  have h5 := mp_D_sz HU hR h h4
  have h6 := md_sz HU (a := x) (n := m + 1) (by omega)
  omega
/-- what a prime's power does in a derivation -/
theorem me_val [Lean.Grind.CommRing U] {cu : U → Nat → FP} (HU : mp_P cu) {x : U} (hx : mp_Pr x) : ∀ (n : Nat) (y : U), mp_sz cu y ≤ n → y ≠ 0 → ∃ (s : Nat) (z : U), ¬ mp_D x z ∧ s < mp_sz cu y ∧ (mp_D x y → 0 < s) ∧ md_d cu y * x * z = y * (mr_nR s * md_d cu x * z + x * md_d cu z) := by
  have hR := mp_Fd_nz mp_FP
  intro n
  induction n with
  | zero => intro y h1 h2; have := mp_sz_pos HU h2; omega
  | succ n ih =>
    intro y h1 h2
    by_cases hd : mp_D x y
    · obtain ⟨w, hw⟩ := hd
      have hw0 : w ≠ 0 := fun e => h2 (by rw [hw, e]; clear ih; grind)
      have hs := mp_sz_mul HU hR hx.1 hw0
      rw [← hw] at hs
      have hx2 : 2 ≤ mp_sz cu x := by
        rcases Nat.lt_or_ge (mp_sz cu x) 2 with q | q
        · have := mp_sz_pos HU hx.1
          exact absurd (mp_U_F HU mp_FP (by omega)) hx.2.1
        · exact q
      obtain ⟨s, z, h3, h4, -, h5⟩ := ih w (by omega) hw0
      refine ⟨s + 1, z, h3, by omega, fun _ => by omega, ?_⟩
      rw [hw, md_mul HU, show mr_nR (R := U) (s + 1) = mr_nR s + 1 from rfl]
      clear ih
      grind
    · refine ⟨0, y, hd, mp_sz_pos HU h2, fun q => absurd q hd, ?_⟩
      rw [show mr_nR (R := U) 0 = 0 from rfl]
      clear ih
      grind
theorem me_nD [Lean.Grind.CommRing U] {x y z : U} (hx : mp_Pr x) (hy : ¬ mp_D x y) (hz : ¬ mp_D x z) : ¬ mp_D x (y * z) := fun h => (hx.2.2 _ _ h).elim hy hz
/-- exponential: no prime divides y -/
theorem me_exp0 [Lean.Grind.CommRing U] {cu : U → Nat → FP} (HU : mp_P cu) {x u v y z k : U} (hx : mp_Pr x) (hs : mp_sz cu x ≤ 32003) (hv0 : v ≠ 0) (hy0 : y ≠ 0) (hvs : mp_sz cu v ≤ 32003) (hys : mp_sz cu y ≤ 32003) (huv : mp_Cp u v) (hyz : mp_Cp y z) (hk : mp_U k) (e : v * v * (md_d cu y * z - md_d cu z * y) = k * (md_d cu u * v - u * md_d cu v) * (y * z)) (h : mp_D x y) : False := by
  have hU := mp_dom HU (mp_Fd_nz mp_FP)
  have hxd := me_pr_d HU hx hs
  obtain ⟨s, y2, h1, h2, h3, h4⟩ := me_val HU hx _ y (Nat.le_refl _) hy0
  have hs0 := h3 h
  have hsU := me_n_ne HU hs0 (by omega)
  have hxz : ¬ mp_D x z := fun q => hx.2.1 (hyz x h q)
  have e2 : v * v * ((mr_nR s * md_d cu x * y2 + x * md_d cu y2) * z - x * y2 * md_d cu z) = k * (md_d cu u * v - u * md_d cu v) * z * (x * y2) := by
    apply mp_cancel hU hy0
    have : y * (v * v * ((mr_nR s * md_d cu x * y2 + x * md_d cu y2) * z - x * y2 * md_d cu z)) = v * v * (md_d cu y * x * y2 * z - y * x * y2 * md_d cu z) := by rw [h4]; grind
    rw [this, show md_d cu y * x * y2 * z - y * x * y2 * md_d cu z = (md_d cu y * z - md_d cu z * y) * (x * y2) by grind]
    grind
  have hN : ¬ mp_D x (mr_nR s * md_d cu x * y2 * z) := me_nD hx (me_nD hx (me_nD hx (me_pr_U hx hsU) hxd) h1) hxz
  have hxv : mp_D x v := by
    refine Classical.byContradiction (fun q => me_nD hx (me_nD hx q q) hN ?_)
    have h5 : mp_D x (v * v * ((mr_nR s * md_d cu x * y2 + x * md_d cu y2) * z - x * y2 * md_d cu z)) := by
      rw [e2]
      exact ⟨k * (md_d cu u * v - u * md_d cu v) * z * y2, by grind⟩
    have h6 := mp_D_sub h5 (⟨v * v * (md_d cu y2 * z - y2 * md_d cu z), rfl⟩ : mp_D x (x * (v * v * (md_d cu y2 * z - y2 * md_d cu z))))
    rw [show v * v * ((mr_nR s * md_d cu x * y2 + x * md_d cu y2) * z - x * y2 * md_d cu z) - x * (v * v * (md_d cu y2 * z - y2 * md_d cu z)) = v * v * (mr_nR s * md_d cu x * y2 * z) by grind] at h6
    exact h6
  have hxu : ¬ mp_D x u := fun q => hx.2.1 (huv x q hxv)
  obtain ⟨f, v2, g1, g2, g3, g4⟩ := me_val HU hx _ v (Nat.le_refl _) hv0
  have hfU := me_n_ne HU (g3 hxv) (by omega)
  have e3 : v2 * v * ((mr_nR s * md_d cu x * y2 + x * md_d cu y2) * z - x * y2 * md_d cu z) = k * (md_d cu u * x * v2 - u * (mr_nR f * md_d cu x * v2 + x * md_d cu v2)) * z * y2 := by
    apply mp_cancel hU (mp_nz_mul hU hv0 hx.1)
    have : v * x * (k * (md_d cu u * x * v2 - u * (mr_nR f * md_d cu x * v2 + x * md_d cu v2)) * z * y2) = x * k * (md_d cu u * v * x * v2 - u * (md_d cu v * x * v2)) * z * y2 := by rw [g4]; grind
    rw [this]
    grind
  have h7 : mp_D x (k * (md_d cu u * x * v2 - u * (mr_nR f * md_d cu x * v2 + x * md_d cu v2)) * z * y2) := by
    rw [← e3]
    obtain ⟨w, hw⟩ := hxv
    exact ⟨v2 * w * ((mr_nR s * md_d cu x * y2 + x * md_d cu y2) * z - x * y2 * md_d cu z), by grind⟩
  have h8 := mp_D_sub (⟨k * (md_d cu u * v2 - u * md_d cu v2) * z * y2, rfl⟩ : mp_D x (x * (k * (md_d cu u * v2 - u * md_d cu v2) * z * y2))) h7
  rw [show x * (k * (md_d cu u * v2 - u * md_d cu v2) * z * y2) - k * (md_d cu u * x * v2 - u * (mr_nR f * md_d cu x * v2 + x * md_d cu v2)) * z * y2 = k * u * mr_nR f * md_d cu x * v2 * z * y2 by grind] at h8
  exact me_nD hx (me_nD hx (me_nD hx (me_nD hx (me_nD hx (me_nD hx (me_pr_U hx hk) hxu) (me_pr_U hx hfU)) hxd) g1) hxz) h1 h8
/-- a polynomial that no prime divides is a number -/
theorem me_const [Lean.Grind.CommRing U] {cu : U → Nat → FP} (HU : mp_P cu) {y : U} (hy0 : y ≠ 0) (hys : mp_sz cu y ≤ 32003) (h : ∀ x, mp_Pr x → mp_sz cu x ≤ 32003 → mp_D x y → False) : mp_sz cu y = 1 := by
  have := mp_sz_pos HU hy0
  rcases Nat.lt_or_ge (mp_sz cu y) 2 with q | q
  · omega
  · obtain ⟨x, hx1, hx2⟩ := mp_irr_ex HU mp_FP _ y (Nat.le_refl _) q
    have := mp_D_sz HU (mp_Fd_nz mp_FP) hx2 hy0
    exact absurd hx2 (fun q => h x (mp_prF HU mp_FP hx1) (by omega) q)
theorem me_d_const [Lean.Grind.CommRing U] {cu : U → Nat → FP} (HU : mp_P cu) {y : U} (h : mp_sz cu y ≤ 1) : md_d cu y = 0 := by
  rw [mp_sz_1 HU h, md_C HU]
/-- two numbers in lowest terms -/
theorem me_low [Lean.Grind.CommRing U] {cu : U → Nat → FP} (HU : mp_P cu) (y : U) {z : U} (hz : z ≠ 0) : ∃ g y1 z1, g ≠ 0 ∧ y = g * y1 ∧ z = g * z1 ∧ mp_Cp y1 z1 := by
  have hU := mp_dom HU (mp_Fd_nz mp_FP)
  obtain ⟨g, a, b, h1, ⟨y1, h2⟩, ⟨z1, h3⟩⟩ := mp_bez HU mp_FP _ y z (Nat.le_refl _)
  have hg0 : g ≠ 0 := fun e => hz (by rw [h3, e]; grind)
  refine ⟨g, y1, z1, hg0, h2, h3, ?_⟩
  rintro d ⟨p, hp⟩ ⟨q, hq⟩
  refine ⟨a * p + b * q, mp_cancel hU hg0 ?_⟩
  grind
theorem me_exp [Lean.Grind.CommRing U] {cu : U → Nat → FP} (HU : mp_P cu) {u v y z k : U} (hv0 : v ≠ 0) (hy0 : y ≠ 0) (hz0 : z ≠ 0) (hvs : mp_sz cu v ≤ 32003) (hys : mp_sz cu y ≤ 32003) (hzs : mp_sz cu z ≤ 32003) (huv : mp_Cp u v) (hk : mp_U k) (hne : md_d cu u * v - u * md_d cu v ≠ 0) (e : v * v * (md_d cu y * z - md_d cu z * y) = k * (md_d cu u * v - u * md_d cu v) * (y * z)) : False := by
  have hR := mp_Fd_nz mp_FP
  have hU := mp_dom HU hR
  obtain ⟨g, y1, z1, hg0, rfl, rfl, hc⟩ := me_low HU y hz0
  have hy10 : y1 ≠ 0 := fun q => hy0 (by rw [q]; grind)
  have hz10 : z1 ≠ 0 := fun q => hz0 (by rw [q]; grind)
  have hk0 : k ≠ 0 := fun q => by obtain ⟨c, hc⟩ := hk; exact hU.2 (by rw [← hc, q]; grind)
  have hys1 := mp_D_sz HU hR (⟨g, by grind⟩ : mp_D y1 (g * y1)) hy0
  have hzs1 := mp_D_sz HU hR (⟨g, by grind⟩ : mp_D z1 (g * z1)) hz0
  have e2 : v * v * (md_d cu y1 * z1 - md_d cu z1 * y1) = k * (md_d cu u * v - u * md_d cu v) * (y1 * z1) := by
    apply mp_cancel hU (mp_nz_mul hU hg0 hg0)
    rw [md_mul HU, md_mul HU] at e
    grind
  have c1 := me_const HU hy10 (by omega) (fun x hx hs hd => me_exp0 HU hx hs hv0 hy10 hvs (by omega) huv hc hk e2 hd)
  have hk2 : mp_U (-k) := by obtain ⟨c, hc⟩ := hk; exact ⟨-c, by grind⟩
  have c2 := me_const HU hz10 (by omega) (fun x hx hs hd => me_exp0 HU hx hs hv0 hz10 hvs (by omega) huv (mp_cp_sym hc) hk2 (show v * v * (md_d cu z1 * y1 - md_d cu y1 * z1) = -k * (md_d cu u * v - u * md_d cu v) * (z1 * y1) by grind) hd)
  rw [me_d_const HU (Nat.le_of_eq c1), me_d_const HU (Nat.le_of_eq c2)] at e2
  have h9 := mp_nz_mul hU (mp_nz_mul hU hk0 hne) (mp_nz_mul hU hy10 hz10)
  exact h9 (by rw [← e2]; grind)
/-- logarithm: no prime divides v -/
theorem me_log0 [Lean.Grind.CommRing U] {cu : U → Nat → FP} (HU : mp_P cu) {x u v y z k : U} (hx : mp_Pr x) (hs : mp_sz cu x ≤ 32003) (hv0 : v ≠ 0) (hz0 : z ≠ 0) (hvs : mp_sz cu v ≤ 32003) (hzs : mp_sz cu z ≤ 32003) (huv : mp_Cp u v) (hyz : mp_Cp y z) (hk : mp_U k) (e : u * v * (md_d cu y * z - md_d cu z * y) = k * (md_d cu u * v - u * md_d cu v) * (z * z)) (hxv : mp_D x v) : False := by
  have hU := mp_dom HU (mp_Fd_nz mp_FP)
  have hxd := me_pr_d HU hx hs
  have hxu : ¬ mp_D x u := fun q => hx.2.1 (huv x q hxv)
  obtain ⟨f, v2, g1, g2, g3, g4⟩ := me_val HU hx _ v (Nat.le_refl _) hv0
  have hfU := me_n_ne HU (g3 hxv) (by omega)
  have e2 : x * v2 * u * (md_d cu y * z - md_d cu z * y) = k * (md_d cu u * x * v2 - u * (mr_nR f * md_d cu x * v2 + x * md_d cu v2)) * (z * z) := by
    apply mp_cancel hU hv0
    have : v * (k * (md_d cu u * x * v2 - u * (mr_nR f * md_d cu x * v2 + x * md_d cu v2)) * (z * z)) = k * (md_d cu u * v * x * v2 - u * (md_d cu v * x * v2)) * (z * z) := by rw [g4]; grind
    rw [this]
    grind
  have hM : ¬ mp_D x (k * u * mr_nR f * md_d cu x * v2) := me_nD hx (me_nD hx (me_nD hx (me_nD hx (me_pr_U hx hk) hxu) (me_pr_U hx hfU)) hxd) g1
  have hxz : mp_D x z := by
    refine Classical.byContradiction (fun q => me_nD hx hM (me_nD hx q q) ?_)
    have h1 : mp_D x (x * (k * (md_d cu u * v2 - u * md_d cu v2) * (z * z) - v2 * u * (md_d cu y * z - md_d cu z * y))) := ⟨_, rfl⟩
    rw [show x * (k * (md_d cu u * v2 - u * md_d cu v2) * (z * z) - v2 * u * (md_d cu y * z - md_d cu z * y)) = k * u * mr_nR f * md_d cu x * v2 * (z * z) by grind] at h1
    exact h1
  have hxy : ¬ mp_D x y := fun q => hx.2.1 (hyz x q hxz)
  obtain ⟨s, z2, h1, h2, h3, h4⟩ := me_val HU hx _ z (Nat.le_refl _) hz0
  have hsU := me_n_ne HU (h3 hxz) (by omega)
  have e3 : v2 * u * (md_d cu y * x * z2 - (mr_nR s * md_d cu x * z2 + x * md_d cu z2) * y) = k * (md_d cu u * x * v2 - u * (mr_nR f * md_d cu x * v2 + x * md_d cu v2)) * (z * z2) := by
    apply mp_cancel hU (mp_nz_mul hU hz0 hx.1)
    have : z * x * (v2 * u * (md_d cu y * x * z2 - (mr_nR s * md_d cu x * z2 + x * md_d cu z2) * y)) = x * v2 * u * (md_d cu y * z * x * z2 - (md_d cu z * x * z2) * y) := by rw [h4]; grind
    rw [this]
    grind
  have h5 : mp_D x (v2 * u * (md_d cu y * x * z2 - (mr_nR s * md_d cu x * z2 + x * md_d cu z2) * y)) := by
    rw [e3]
    obtain ⟨w, hw⟩ := hxz
    exact ⟨k * (md_d cu u * x * v2 - u * (mr_nR f * md_d cu x * v2 + x * md_d cu v2)) * (w * z2), by grind⟩
  have h6 := mp_D_sub (⟨v2 * u * (md_d cu y * z2 - md_d cu z2 * y), rfl⟩ : mp_D x (x * (v2 * u * (md_d cu y * z2 - md_d cu z2 * y)))) h5
  rw [show x * (v2 * u * (md_d cu y * z2 - md_d cu z2 * y)) - v2 * u * (md_d cu y * x * z2 - (mr_nR s * md_d cu x * z2 + x * md_d cu z2) * y) = v2 * u * mr_nR s * md_d cu x * z2 * y by grind] at h6
  exact me_nD hx (me_nD hx (me_nD hx (me_nD hx (me_nD hx g1 hxu) (me_pr_U hx hsU)) hxd) h1) hxy h6
theorem me_log [Lean.Grind.CommRing U] {cu : U → Nat → FP} (HU : mp_P cu) {u v y z k : U} (hu0 : u ≠ 0) (hv0 : v ≠ 0) (hz0 : z ≠ 0) (hus : mp_sz cu u ≤ 32003) (hvs : mp_sz cu v ≤ 32003) (hzs : mp_sz cu z ≤ 32003) (huv : mp_Cp u v) (hk : mp_U k) (hne : md_d cu u * v - u * md_d cu v ≠ 0) (e : u * v * (md_d cu y * z - md_d cu z * y) = k * (md_d cu u * v - u * md_d cu v) * (z * z)) : False := by
  have hR := mp_Fd_nz mp_FP
  have hU := mp_dom HU hR
  obtain ⟨g, y1, z1, hg0, rfl, rfl, hc⟩ := me_low HU y hz0
  have hz10 : z1 ≠ 0 := fun q => hz0 (by rw [q]; grind)
  have hzs1 := mp_D_sz HU hR (⟨g, by grind⟩ : mp_D z1 (g * z1)) hz0
  have e2 : u * v * (md_d cu y1 * z1 - md_d cu z1 * y1) = k * (md_d cu u * v - u * md_d cu v) * (z1 * z1) := by
    apply mp_cancel hU (mp_nz_mul hU hg0 hg0)
    rw [md_mul HU, md_mul HU] at e
    grind
  have c1 := me_const HU hv0 hvs (fun x hx hs hd => me_log0 HU hx hs hv0 hz10 hvs (by omega) huv hc hk e2 hd)
  have hk2 : mp_U (-k) := by obtain ⟨c, hc⟩ := hk; exact ⟨-c, by grind⟩
  have c2 := me_const HU hu0 hus (fun x hx hs hd => me_log0 HU hx hs hu0 hz10 hus (by omega) (mp_cp_sym huv) hc hk2 (show v * u * (md_d cu y1 * z1 - md_d cu z1 * y1) = -k * (md_d cu v * u - v * md_d cu u) * (z1 * z1) by grind) hd)
  rw [me_d_const HU (Nat.le_of_eq c1), me_d_const HU (Nat.le_of_eq c2)] at hne
  exact hne (by grind)
end
