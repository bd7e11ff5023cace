/-! the special part, whole -/
section
variable {U A : Type}
noncomputable def ms_t [Lean.Grind.CommRing U] [Lean.Grind.CommRing A] (ca : A → Nat → U) : A := mp_m ca 1 1
theorem ms_t_mul [Lean.Grind.CommRing U] [Lean.Grind.CommRing A] {ca : A → Nat → U} (HA : mp_P ca) (a : A) (n : Nat) : ca (ms_t ca * a) n = if 1 ≤ n then ca a (n - 1) else 0 := by
  rw [ms_t, mp_m_mul HA]
  split
  · grind
  · rfl
theorem ms_t_D [Lean.Grind.CommRing U] [Lean.Grind.CommRing A] {ca : A → Nat → U} (HA : mp_P ca) {a : A} : mp_D (ms_t ca) a ↔ ca a 0 = 0 := by
  constructor
  · rintro ⟨b, rfl⟩
    rw [ms_t_mul HA]
    rfl
  · intro h
    obtain ⟨b, -, hb⟩ := mp_unshift HA a
    rw [h, mp_C_0 HA] at hb
    exact ⟨b, by rw [ms_t]; grind⟩
theorem ms_t_sz [Lean.Grind.CommRing U] [Lean.Grind.CommRing A] {ca : A → Nat → U} (HA : mp_P ca) (hU : mp_NZ U) : mp_sz ca (ms_t ca) = 2 := mp_sz_eq HA (n := 1) (fun j hj => by rw [ms_t, mp_m_cf HA, if_neg (by omega)]) (by rw [ms_t, mp_m_cf HA, if_pos rfl]; exact hU.2)
theorem ms_t_Pr [Lean.Grind.CommRing U] [Lean.Grind.CommRing A] {ca : A → Nat → U} (HA : mp_P ca) (hU : mp_NZ U) : mp_Pr (ms_t ca) := by
  have hs := ms_t_sz HA hU
  refine ⟨fun e => by rw [(mp_sz_0 HA).mpr e] at hs; omega, fun e => by have := mp_U_sz HA hU e; omega, fun f g h => ?_⟩
  rw [ms_t_D HA, mp_mul HA, mp_S_s, mp_S_0] at h
  rcases hU.1 (ca f 0) (ca g 0) (by simp at h; grind) with z | z
  · exact Or.inl ((ms_t_D HA).mpr z)
  · exact Or.inr ((ms_t_D HA).mpr z)
theorem ms_part [Lean.Grind.CommRing U] [Lean.Grind.CommRing A] {cu : U → Nat → FP} {ca : A → Nat → U} (HU : mp_P cu) (HA : mp_P ca) {p h W : A} {sB : U} (hp0 : p ≠ 0) (hfree : ∀ d, mp_Pr d → ¬ mp_D (d * d) p) (h1 : mp_D h p) (h2 : mp_D h (md_E cu ca sB W p)) : mp_D h (md_E cu ca sB W h) := by
  have hAd := mp_dom HA (mp_dom HU (mp_Fd_nz mp_FP))
  obtain ⟨k, hk⟩ := h1
  have hh0 : h ≠ 0 := fun e => hp0 (by rw [hk, e]; grind)
  have hk0 : k ≠ 0 := fun e => hp0 (by rw [hk, e]; grind)
  have hcp : mp_Cp k h := mp_ncp mp_FP HU HA hh0 (fun d hd g1 g2 => hfree d hd (by
    obtain ⟨x, hx⟩ := g1
    obtain ⟨y, hy⟩ := g2
    exact ⟨x * y, by rw [hk, hx, hy]; grind⟩))
  refine mp_euclid mp_FP HU HA hh0 hcp ?_
  have h3 := mp_D_sub h2 (⟨md_E cu ca sB W k, rfl⟩ : mp_D h (h * md_E cu ca sB W k))
  rw [hk, md_E_mul HU HA, show md_E cu ca sB W h * k + h * md_E cu ca sB W k - h * md_E cu ca sB W k = k * md_E cu ca sB W h by grind] at h3
  exact h3
theorem ms_E_exp [Lean.Grind.CommRing U] [Lean.Grind.CommRing A] {cu : U → Nat → FP} {ca : A → Nat → U} (HU : mp_P cu) (HA : mp_P ca) (sA sB : U) (h : A) (n : Nat) : ca (md_E cu ca sB (mp_C ca sA * ms_t ca) h) n = sB * md_d cu (ca h n) + sA * mr_nR n * ca h n := by
  rw [md_E, mp_add HA, mp_C_mul HA, md_x_cf HU HA, show mp_C ca sA * ms_t ca * md_d ca h = mp_C ca sA * (ms_t ca * md_d ca h) by grind, mp_C_mul HA, ms_t_mul HA]
  cases n with
  | zero =>
    rw [if_neg (by omega), show mr_nR (R := U) 0 = 0 from rfl]
    grind
  | succ n =>
    rw [if_pos (by omega), Nat.add_sub_cancel, md_cf HA]
    grind
theorem ms_E_log [Lean.Grind.CommRing U] [Lean.Grind.CommRing A] {cu : U → Nat → FP} {ca : A → Nat → U} (HU : mp_P cu) (HA : mp_P ca) (sA sB : U) (h : A) (n : Nat) : ca (md_E cu ca sB (mp_C ca sA) h) n = sB * md_d cu (ca h n) + sA * mr_nR (n + 1) * ca h (n + 1) := by
  rw [md_E, mp_add HA, mp_C_mul HA, md_x_cf HU HA, mp_C_mul HA, md_cf HA]
  grind
/-- a divisor of its derivation: the other factor is without t -/
theorem ms_factor [Lean.Grind.CommRing U] [Lean.Grind.CommRing A] {cu : U → Nat → FP} {ca : A → Nat → U} (HU : mp_P cu) (HA : mp_P ca) {h e : A} (hh0 : h ≠ 0) (hd : mp_D h e) (hs : mp_sz ca e ≤ mp_sz ca h) : ∃ q : U, ∀ n, ca e n = q * ca h n := by
  have hU := mp_dom HU (mp_Fd_nz mp_FP)
  obtain ⟨q, rfl⟩ := hd
  refine ⟨ca q 0, fun n => ?_⟩
  have hq : mp_sz ca q ≤ 1 := by
    by_cases hq0 : q = 0
    · rw [(mp_sz_0 HA).mpr hq0]; omega
    · have := mp_sz_mul HA hU hh0 hq0
      omega
  rw [show h * q = q * h by grind, mp_sz_1 HA hq, mp_C_mul HA, ← mp_sz_1 HA hq]
theorem ms_exp [Lean.Grind.CommRing U] [Lean.Grind.CommRing A] {cu : U → Nat → FP} {ca : A → Nat → U} (HU : mp_P cu) (HA : mp_P ca) {p h : A} {sA sB u v : U} (hp0 : p ≠ 0) (hfree : ∀ d, mp_Pr d → ¬ mp_D (d * d) p) (hprim : ∀ x : U, mp_D (mp_C ca x) p → mp_U x) (hps : mp_sz ca p ≤ 32003) (hpx : mp_xz cu ca p ≤ 32003) (hv0 : v ≠ 0) (hvs : mp_sz cu v ≤ 32003) (huv : mp_Cp u v) (hne : md_d cu u * v - u * md_d cu v ≠ 0) (hsB : sB ≠ 0) (hs : sB * (md_d cu u * v - u * md_d cu v) = sA * (v * v))
    (hg : mp_G p (md_E cu ca sB (mp_C ca sA * ms_t ca) p) h) : (ca p 0 = 0 → ∃ r : FP, r ≠ 0 ∧ h = mp_C ca (mp_C cu r) * ms_t ca) ∧ (ca p 0 ≠ 0 → mp_U h) := by
  have hR := mp_Fd_nz mp_FP
  have hU := mp_dom HU hR
  have hAd := mp_dom HA hU
  have hh0 : h ≠ 0 := fun e => by obtain ⟨y, hy⟩ := hg.1; exact hp0 (by rw [hy, e]; grind)
  have hhs := mp_D_sz HA hU hg.1 hp0
  have hhx : mp_xz cu ca h ≤ mp_xz cu ca p := mp_D_sz (mp_sw_P HU HA) hU hg.1 hp0
  obtain ⟨q, hq⟩ := ms_factor HU HA hh0 (ms_part HU HA hp0 hfree hg.1 hg.2.1) (mp_sz_le HA (fun n hn => by rw [ms_E_exp HU HA, mp_sz_out HA hn, md_0 HU]; grind))
  obtain ⟨n, hn⟩ : ∃ n, mp_sz ca h = n + 1 := ⟨mp_sz ca h - 1, by have := mp_sz_pos HA hh0; omega⟩
  have hz0 := mp_sz_top HA hn
  have low : ∀ k, k < n → ca h k = 0 := by
    intro k hk
    refine Classical.byContradiction (fun hy0 => ?_)
    have e1 := hq k
    have e2 := hq n
    rw [ms_E_exp HU HA] at e1 e2
    have hnk : mr_nR (R := U) n = mr_nR k + mr_nR (n - k) := by rw [← mr_nR_add, show k + (n - k) = n by omega]
    refine me_exp HU hv0 hy0 hz0 hvs (Nat.le_trans (mp_xz_row HU HA h k) (by omega)) (Nat.le_trans (mp_xz_row HU HA h n) (by omega)) huv (me_n_ne HU (n := n - k) (by omega) (by omega)) hne ?_
    apply mp_cancel hU hsB
    grind
  have hdh : ∀ x : U, mp_D (mp_C ca x) h → mp_U x := fun x hx => hprim x (mp_D_tr hx hg.1)
  have hn1 : n ≤ 1 := by
    refine Classical.byContradiction (fun hq => ?_)
    obtain ⟨b, hb1, hb2⟩ := mp_unshift HA h
    rw [low 0 (by omega), mp_C_0 HA] at hb2
    obtain ⟨b', hb3, hb4⟩ := mp_unshift HA b
    rw [hb1, low 1 (by omega), mp_C_0 HA] at hb4
    refine hfree _ (ms_t_Pr HA hU) (mp_D_tr ⟨b', ?_⟩ hg.1)
    rw [ms_t]
    grind
  by_cases hn0 : n = 0
  · have hu : mp_U h := by
      rw [mp_sz_1 HA (a := h) (by omega)]
      exact mp_U_C HA (hdh _ (by rw [← mp_sz_1 HA (a := h) (by omega)]; exact mp_D_rf h))
    refine ⟨fun h0 => ?_, fun _ => hu⟩
    have ht : mp_D (ms_t ca) h := by
      refine hg.2.2 _ ((ms_t_D HA).mpr h0) ((ms_t_D HA).mpr ?_)
      rw [ms_E_exp HU HA, h0, md_0 HU]
      grind
    exact absurd (mp_U_of_D ht hu) (ms_t_Pr HA hU).2.1
  · have hn1' : n = 1 := by omega
    subst hn1'
    have hh : h = mp_C ca (ca h 1) * ms_t ca := mp_ext HA (fun k => by
      rw [mp_C_mul HA, ms_t, mp_m_cf HA]
      by_cases h1 : k = 1
      · rw [if_pos h1, h1]; grind
      · rw [if_neg h1]
        by_cases h0 : k = 0
        · rw [h0, low 0 (by omega)]; grind
        · rw [mp_sz_out HA (by omega)]; grind)
    have ht : mp_D (ms_t ca) p := mp_D_tr ⟨mp_C ca (ca h 1), by rw [hh, mp_C_mul HA, ms_t, mp_m_cf HA, if_pos rfl]; grind⟩ hg.1
    refine ⟨fun _ => ?_, fun h0 => absurd ((ms_t_D HA).mp ht) h0⟩
    have hu := mp_U_sz HU hR (hdh (ca h 1) ⟨ms_t ca, hh⟩)
    have h9 := mp_sz_1 HU (Nat.le_of_eq hu)
    refine ⟨cu (ca h 1) 0, mp_sz_top HU hu, ?_⟩
    rw [← h9]
    exact hh
theorem ms_log [Lean.Grind.CommRing U] [Lean.Grind.CommRing A] {cu : U → Nat → FP} {ca : A → Nat → U} (HU : mp_P cu) (HA : mp_P ca) {p h : A} {sA sB u v : U} (hp0 : p ≠ 0) (hfree : ∀ d, mp_Pr d → ¬ mp_D (d * d) p) (hprim : ∀ x : U, mp_D (mp_C ca x) p → mp_U x) (hps : mp_sz ca p ≤ 32003) (hpx : mp_xz cu ca p ≤ 32003) (hu0 : u ≠ 0) (hv0 : v ≠ 0) (hus : mp_sz cu u ≤ 32003) (hvs : mp_sz cu v ≤ 32003) (huv : mp_Cp u v) (hne : md_d cu u * v - u * md_d cu v ≠ 0) (hsB : sB ≠ 0) (hs : sB * (md_d cu u * v - u * md_d cu v) = sA * (u * v))
    (hg : mp_G p (md_E cu ca sB (mp_C ca sA) p) h) : mp_U h := by
  have hR := mp_Fd_nz mp_FP
  have hU := mp_dom HU hR
  have hAd := mp_dom HA hU
  have hh0 : h ≠ 0 := fun e => by obtain ⟨y, hy⟩ := hg.1; exact hp0 (by rw [hy, e]; grind)
  have hhs := mp_D_sz HA hU hg.1 hp0
  have hhx : mp_xz cu ca h ≤ mp_xz cu ca p := mp_D_sz (mp_sw_P HU HA) hU hg.1 hp0
  obtain ⟨q, hq⟩ := ms_factor HU HA hh0 (ms_part HU HA hp0 hfree hg.1 hg.2.1) (mp_sz_le HA (fun n hn => by rw [ms_E_log HU HA, mp_sz_out HA hn, mp_sz_out HA (by omega), md_0 HU]; grind))
  obtain ⟨n, hn⟩ : ∃ n, mp_sz ca h = n + 1 := ⟨mp_sz ca h - 1, by have := mp_sz_pos HA hh0; omega⟩
  have hz0 := mp_sz_top HA hn
  by_cases hn0 : n = 0
  · rw [mp_sz_1 HA (a := h) (by omega)]
    exact mp_U_C HA (hprim _ (by rw [← mp_sz_1 HA (a := h) (by omega)]; exact hg.1))
  · exfalso
    have e1 := hq (n - 1)
    have e2 := hq n
    rw [ms_E_log HU HA] at e1 e2
    rw [mp_sz_out HA (n := n + 1) (by omega)] at e2
    rw [show n - 1 + 1 = n by omega] at e1
    have hk : mp_U (-mr_nR (R := U) n) := by
      obtain ⟨c, hc⟩ := me_n_ne HU (n := n) (by omega) (by omega)
      exact ⟨-c, by grind⟩
    refine me_log HU (y := ca h (n - 1)) hu0 hv0 hz0 hus hvs (Nat.le_trans (mp_xz_row HU HA h n) (by omega)) huv hk hne ?_
    apply mp_cancel hU hsB
    grind
end
