/-! derivations; a polynomial without squares, its special part -/
section
variable {R A : Type}
noncomputable def md_d [Lean.Grind.CommRing R] [Lean.Grind.CommRing A] (cf : A → Nat → R) (a : A) : A := mp_mk cf (fun n => mr_nR (n + 1) * cf a (n + 1))
theorem md_cf [Lean.Grind.CommRing R] [Lean.Grind.CommRing A] {cf : A → Nat → R} (H : mp_P cf) (a : A) (n : Nat) : cf (md_d cf a) n = mr_nR (n + 1) * cf a (n + 1) := by
  obtain ⟨N, hN⟩ := H.2.2.2.1 a
  exact mp_mk_cf H N (fun n hn => by rw [hN _ (by omega)]; grind) n
theorem mr_nR_add [Lean.Grind.CommRing R] (m : Nat) : ∀ n, mr_nR (R := R) (m + n) = mr_nR m + mr_nR n
  | 0 => by show mr_nR m = mr_nR m + 0; grind
  | n + 1 => by show mr_nR (m + n) + 1 = mr_nR m + (mr_nR n + 1); rw [mr_nR_add m n]; grind
theorem mr_nR_FP : ∀ n, mr_nR (R := FP) n = mf_n n
  | 0 => rfl
  | n + 1 => by show mr_nR n + 1 = mf_n (n + 1); rw [mr_nR_FP n, mf_n_add]; rfl
theorem mr_nR_C [Lean.Grind.CommRing R] [Lean.Grind.CommRing A] {cf : A → Nat → R} (H : mp_P cf) : ∀ n, mr_nR (R := A) n = mp_C cf (mr_nR n)
  | 0 => (mp_C_0 H).symm
  | n + 1 => by show mr_nR n + 1 = mp_C cf (mr_nR n + 1); rw [mr_nR_C H n, mp_C_add H, mp_C_1 H]
theorem md_add [Lean.Grind.CommRing R] [Lean.Grind.CommRing A] {cf : A → Nat → R} (H : mp_P cf) (a b : A) : md_d cf (a + b) = md_d cf a + md_d cf b := mp_ext H (fun n => by rw [mp_add H, md_cf H, md_cf H, md_cf H, mp_add H]; grind)
theorem md_mul [Lean.Grind.CommRing R] [Lean.Grind.CommRing A] {cf : A → Nat → R} (H : mp_P cf) (a b : A) : md_d cf (a * b) = md_d cf a * b + a * md_d cf b := mp_ext H (fun n => by
  rw [mp_add H, md_cf H, mp_mul H, mp_mul H, mp_mul H, ← mp_S_mul]
  have e1 : mp_S (n + 1 + 1) (fun i => mr_nR (n + 1) * (cf a i * cf b (n + 1 - i))) = mp_S (n + 1 + 1) (fun i => mr_nR i * cf a i * cf b (n + 1 - i)) + mp_S (n + 1 + 1) (fun i => cf a i * (mr_nR (n + 1 - i) * cf b (n + 1 - i))) := by
    rw [← mp_S_add]
    refine mp_S_cong (fun i hi => ?_)
    have h : mr_nR (R := R) (n + 1) = mr_nR i + mr_nR (n + 1 - i) := by rw [← mr_nR_add, show i + (n + 1 - i) = n + 1 by omega]
    rw [h]
    grind
  rw [e1, mp_S_first (fun i => mr_nR i * cf a i * cf b (n + 1 - i)), mp_S_s (n + 1) (fun i => cf a i * (mr_nR (n + 1 - i) * cf b (n + 1 - i)))]
  have e2 : mp_S (n + 1) (fun i => mr_nR (i + 1) * cf a (i + 1) * cf b (n + 1 - (i + 1))) = mp_S (n + 1) (fun i => cf (md_d cf a) i * cf b (n - i)) := mp_S_cong (fun i hi => by rw [md_cf H, show n + 1 - (i + 1) = n - i by omega])
  have e3 : mp_S (n + 1) (fun i => cf a i * (mr_nR (n + 1 - i) * cf b (n + 1 - i))) = mp_S (n + 1) (fun i => cf a i * cf (md_d cf b) (n - i)) := mp_S_cong (fun i hi => by rw [md_cf H, show n - i + 1 = n + 1 - i by omega])
  rw [e2, e3, show n + 1 - (n + 1) = 0 by omega]
  have e4 : mr_nR (R := R) 0 = 0 := rfl
  rw [e4]
  grind)
theorem md_C [Lean.Grind.CommRing R] [Lean.Grind.CommRing A] {cf : A → Nat → R} (H : mp_P cf) (r : R) : md_d cf (mp_C cf r) = 0 := mp_ext H (fun n => by rw [md_cf H, mp_C_cf H, mp_zero H, if_neg (by omega)]; grind)
theorem md_0 [Lean.Grind.CommRing R] [Lean.Grind.CommRing A] {cf : A → Nat → R} (H : mp_P cf) : md_d cf 0 = 0 := by
  have h := md_C H 0
  rw [mp_C_0 H] at h
  exact h
theorem md_sz [Lean.Grind.CommRing R] [Lean.Grind.CommRing A] {cf : A → Nat → R} (H : mp_P cf) {a : A} {n : Nat} (h : mp_sz cf a ≤ n + 1) : mp_sz cf (md_d cf a) ≤ n := mp_sz_le H (fun j hj => by rw [md_cf H, mp_sz_out H (by omega)]; grind)
theorem md_S [Lean.Grind.CommRing R] [Lean.Grind.CommRing A] {cf : A → Nat → R} (H : mp_P cf) (f : Nat → A) : ∀ n, md_d cf (mp_S n f) = mp_S n (fun i => md_d cf (f i))
  | 0 => md_0 H
  | n + 1 => by rw [mp_S_s, mp_S_s, md_add H, md_S H f n]
end
section
variable {U A : Type}
/-- the derivation by x of a polynomial in both -/
noncomputable def md_x [Lean.Grind.CommRing U] [Lean.Grind.CommRing A] (cu : U → Nat → FP) (ca : A → Nat → U) (a : A) : A := mp_mk ca (fun n => md_d cu (ca a n))
theorem md_x_cf [Lean.Grind.CommRing U] [Lean.Grind.CommRing A] {cu : U → Nat → FP} {ca : A → Nat → U} (HU : mp_P cu) (HA : mp_P ca) (a : A) (n : Nat) : ca (md_x cu ca a) n = md_d cu (ca a n) := by
  obtain ⟨N, hN⟩ := HA.2.2.2.1 a
  exact mp_mk_cf HA N (fun n hn => by rw [hN n hn, md_0 HU]) n
theorem md_x_mul [Lean.Grind.CommRing U] [Lean.Grind.CommRing A] {cu : U → Nat → FP} {ca : A → Nat → U} (HU : mp_P cu) (HA : mp_P ca) (a b : A) : md_x cu ca (a * b) = md_x cu ca a * b + a * md_x cu ca b := mp_ext HA (fun n => by
  rw [mp_add HA, md_x_cf HU HA, mp_mul HA, mp_mul HA, mp_mul HA, md_S HU, ← mp_S_add]
  exact mp_S_cong (fun i _ => by rw [md_mul HU, md_x_cf HU HA, md_x_cf HU HA]))
/-- the derivation, times what is below in that of t -/
noncomputable def md_E [Lean.Grind.CommRing U] [Lean.Grind.CommRing A] (cu : U → Nat → FP) (ca : A → Nat → U) (sB : U) (W : A) (a : A) : A := mp_C ca sB * md_x cu ca a + W * md_d ca a
theorem md_E_mul [Lean.Grind.CommRing U] [Lean.Grind.CommRing A] {cu : U → Nat → FP} {ca : A → Nat → U} (HU : mp_P cu) (HA : mp_P ca) (sB : U) (W a b : A) : md_E cu ca sB W (a * b) = md_E cu ca sB W a * b + a * md_E cu ca sB W b := by
  rw [md_E, md_E, md_E, md_x_mul HU HA, md_mul HA]
  grind
/-- what is left of a when the divisor that it shares with its derivation by t is taken out has no squares -/
theorem md_free [Lean.Grind.CommRing U] [Lean.Grind.CommRing A] {cu : U → Nat → FP} {ca : A → Nat → U} (HU : mp_P cu) (HA : mp_P ca) {p d : A} (hp0 : p ≠ 0) (hd : mp_Pr d) (hd2 : mp_D (d * d) p) : ∀ (n : Nat) (g Y : A), mp_mu cu ca g ≤ n → g ≠ 0 → md_d ca g * p = g * Y → ¬ mp_D d Y → False := by
  have hAd := mp_dom HA (mp_dom HU (mp_Fd_nz mp_FP))
  intro n
  induction n with
  | zero => intro g Y h1 h2; have := mp_mu_2 HU HA h2; omega
  | succ n ih =>
    intro g Y h1 h2 h3 h4
    obtain ⟨p1, hp1⟩ := hd2
    have h5 : mp_D d (g * Y) := by rw [← h3, hp1]; exact ⟨md_d ca g * d * p1, by clear ih; grind⟩
    rcases hd.2.2 _ _ h5 with h6 | h6
    · obtain ⟨g2, hg2⟩ := h6
      have hg20 : g2 ≠ 0 := fun e => h2 (by rw [hg2, e]; clear ih; grind)
      have hmu := mp_mu_mul mp_FP HU HA hd.1 hg20
      rw [← hg2] at hmu
      have hmd : mp_mu cu ca d ≠ 2 := fun e => by
        obtain ⟨r, hr, hr2⟩ := mp_mu_U mp_FP HU HA hd.1 e
        exact hd.2.1 (by rw [hr2]; exact mp_CC_U mp_FP HU HA hr)
      have hm2 := mp_mu_2 HU HA hd.1
      have hm3 := mp_mu_2 HU HA hg20
      refine ih g2 (Y - md_d ca d * d * p1) (by omega) hg20 (mp_cancel hAd hd.1 ?_) (fun e => h4 ?_)
      · rw [hg2, md_mul HA] at h3
        clear ih
        grind
      · have := mp_D_add e (⟨md_d ca d * p1, by clear ih; grind⟩ : mp_D d (md_d ca d * d * p1))
        rw [show Y - md_d ca d * d * p1 + md_d ca d * d * p1 = Y by clear ih; grind] at this
        exact this
    · exact h4 h6
theorem md_prim [Lean.Grind.CommRing U] [Lean.Grind.CommRing A] {cu : U → Nat → FP} {ca : A → Nat → U} (HU : mp_P cu) (HA : mp_P ca) {p : A} {x : U} (hp0 : p ≠ 0) (hd : mp_Pr (mp_C ca x)) (hd2 : mp_D (mp_C ca x) p) : ∀ (n : Nat) (g Y : A), mp_mu cu ca g ≤ n → g ≠ 0 → md_d ca g * p = g * Y → ¬ mp_D (mp_C ca x) Y → False := by
  have hAd := mp_dom HA (mp_dom HU (mp_Fd_nz mp_FP))
  intro n
  induction n with
  | zero => intro g Y h1 h2; have := mp_mu_2 HU HA h2; omega
  | succ n ih =>
    intro g Y h1 h2 h3 h4
    have h5 : mp_D (mp_C ca x) (g * Y) := by rw [← h3]; exact mp_D_mul' hd2 _
    rcases hd.2.2 _ _ h5 with h6 | h6
    · obtain ⟨g2, hg2⟩ := h6
      have hg20 : g2 ≠ 0 := fun e => h2 (by rw [hg2, e]; clear ih; grind)
      have hmu := mp_mu_mul mp_FP HU HA hd.1 hg20
      rw [← hg2] at hmu
      have hmd : mp_mu cu ca (mp_C ca x) ≠ 2 := fun e => by
        obtain ⟨r, hr, hr2⟩ := mp_mu_U mp_FP HU HA hd.1 e
        exact hd.2.1 (by rw [hr2]; exact mp_CC_U mp_FP HU HA hr)
      have hm2 := mp_mu_2 HU HA hd.1
      have hm3 := mp_mu_2 HU HA hg20
      refine ih g2 Y (by omega) hg20 (mp_cancel hAd hd.1 ?_) h4
      rw [hg2, md_mul HA, md_C HA] at h3
      clear ih
      grind
    · exact h4 h6
/-- both, of a = g p, its derivation by t = g w, where only units divide p and w -/
theorem md_bare [Lean.Grind.CommRing U] [Lean.Grind.CommRing A] {cu : U → Nat → FP} {ca : A → Nat → U} (HU : mp_P cu) (HA : mp_P ca) {a g p w : A} (ha : a ≠ 0) (e1 : a = g * p) (e2 : md_d ca a = g * w) (hc : mp_Cp p w) : (∀ d, mp_Pr d → ¬ mp_D (d * d) p) ∧ ∀ x : U, mp_D (mp_C ca x) p → mp_U x := by
  have hF := mp_FP
  have hU := mp_dom HU (mp_Fd_nz hF)
  have hg0 : g ≠ 0 := fun e => ha (by rw [e1, e]; grind)
  have hp0 : p ≠ 0 := fun e => ha (by rw [e1, e]; grind)
  have key : md_d ca g * p = g * (w - md_d ca p) := by
    rw [e1, md_mul HA] at e2
    grind
  have prim : ∀ x : U, mp_Irr x → ¬ mp_D (mp_C ca x) p := by
    intro x hx h
    have hx2 := mp_prF HU hF hx
    have hpr : mp_Pr (mp_C ca x) := ⟨mp_C_ne HA hx.1, fun hu => by
      obtain ⟨y, hy⟩ := hu
      have h1 := congrArg (fun z => ca z 0) hy
      simp only [mp_C_mul HA, mp_one HA, if_true] at h1
      exact hx.2.1 ⟨_, h1⟩, fun f g' h => mp_gauss HA hx2.2.2 h⟩
    refine md_prim HU HA hp0 hpr h _ g (w - md_d ca p) (Nat.le_refl _) hg0 key (fun e => hpr.2.1 (hc _ h ?_))
    obtain ⟨p1, hp1⟩ := h
    have h2 : mp_D (mp_C ca x) (md_d ca p) := ⟨md_d ca p1, by rw [hp1, md_mul HA, md_C HA]; grind⟩
    have := mp_D_add e h2
    rw [show w - md_d ca p + md_d ca p = w by grind] at this
    exact this
  refine ⟨fun d hd h => ?_, fun x h => ?_⟩
  · refine md_free HU HA hp0 hd h _ g (w - md_d ca p) (Nat.le_refl _) hg0 key (fun e => hd.2.1 (hc d (mp_D_tr ⟨d, rfl⟩ h) ?_))
    obtain ⟨p1, hp1⟩ := h
    have h2 : mp_D d (md_d ca p) := ⟨md_d ca d * p1 + md_d ca d * p1 + d * md_d ca p1, by rw [hp1, md_mul HA, md_mul HA]; grind⟩
    have := mp_D_add e h2
    rw [show w - md_d ca p + md_d ca p = w by grind] at this
    exact this
  · have hx0 : x ≠ 0 := fun e => by
      obtain ⟨y, hy⟩ := h
      exact hp0 (by rw [hy, e, mp_C_0 HA]; grind)
    have := mp_sz_pos HU hx0
    rcases Nat.lt_or_ge (mp_sz cu x) 2 with q | q
    · exact mp_U_F HU hF (by omega)
    · obtain ⟨y, hy1, z, hz⟩ := mp_irr_ex HU hF _ x (Nat.le_refl _) q
      exact absurd (mp_D_tr ⟨mp_C ca z, by rw [hz, mp_C_mulC HA]⟩ h) (prim y hy1)
end
