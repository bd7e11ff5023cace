/-! images at a number for x, and what the divisor is pieced together to -/
section
variable {R U A : Type}
theorem mp_e_S [Lean.Grind.CommRing R] [Lean.Grind.CommRing A] {cf : A → Nat → R} (H : mp_P cf) (hR : mp_NZ R) (w : R) (f : Nat → A) : ∀ n, mp_e cf w (mp_S n f) = mp_S n (fun i => mp_e cf w (f i))
  | 0 => mp_e_0 H hR w
  | n + 1 => by rw [mp_S_s, mp_S_s, mp_e_add H hR, mp_e_S H hR w f n]
noncomputable def mp_im [Lean.Grind.CommRing R] [Lean.Grind.CommRing U] (cu : U → Nat → R) (ca : A → Nat → U) (w : R) (a : A) : U := mp_mk cu (fun n => mp_e cu w (ca a n))
theorem mp_im_cf [Lean.Grind.CommRing R] [Lean.Grind.CommRing U] [Lean.Grind.CommRing A] {cu : U → Nat → R} {ca : A → Nat → U} (hF : mp_Fd R) (HU : mp_P cu) (HA : mp_P ca) (w : R) (a : A) (n : Nat) : cu (mp_im cu ca w a) n = mp_e cu w (ca a n) := by
  obtain ⟨N, hN⟩ := HA.2.2.2.1 a
  exact mp_mk_cf HU N (fun n hn => by rw [hN n hn, mp_e_0 HU (mp_Fd_nz hF)]) n
theorem mp_im_add [Lean.Grind.CommRing R] [Lean.Grind.CommRing U] [Lean.Grind.CommRing A] {cu : U → Nat → R} {ca : A → Nat → U} (hF : mp_Fd R) (HU : mp_P cu) (HA : mp_P ca) (w : R) (a b : A) : mp_im cu ca w (a + b) = mp_im cu ca w a + mp_im cu ca w b :=
  mp_ext HU (fun n => by rw [mp_add HU, mp_im_cf hF HU HA, mp_im_cf hF HU HA, mp_im_cf hF HU HA, mp_add HA, mp_e_add HU (mp_Fd_nz hF)])
theorem mp_im_mul [Lean.Grind.CommRing R] [Lean.Grind.CommRing U] [Lean.Grind.CommRing A] {cu : U → Nat → R} {ca : A → Nat → U} (hF : mp_Fd R) (HU : mp_P cu) (HA : mp_P ca) (w : R) (a b : A) : mp_im cu ca w (a * b) = mp_im cu ca w a * mp_im cu ca w b :=
  mp_ext HU (fun n => by
    rw [mp_im_cf hF HU HA, mp_mul HA, mp_e_S HU (mp_Fd_nz hF), mp_mul HU]
    exact mp_S_cong (fun i _ => by rw [mp_e_mul HU (mp_Fd_nz hF), mp_im_cf hF HU HA, mp_im_cf hF HU HA]))
theorem mp_im_C [Lean.Grind.CommRing R] [Lean.Grind.CommRing U] [Lean.Grind.CommRing A] {cu : U → Nat → R} {ca : A → Nat → U} (hF : mp_Fd R) (HU : mp_P cu) (HA : mp_P ca) (w : R) (c : U) : mp_im cu ca w (mp_C ca c) = mp_C cu (mp_e cu w c) :=
  mp_ext HU (fun n => by
    rw [mp_im_cf hF HU HA, mp_C_cf HA, mp_C_cf HU]
    split
    · rfl
    · exact mp_e_0 HU (mp_Fd_nz hF) w)
theorem mp_im_D [Lean.Grind.CommRing R] [Lean.Grind.CommRing U] [Lean.Grind.CommRing A] {cu : U → Nat → R} {ca : A → Nat → U} (hF : mp_Fd R) (HU : mp_P cu) (HA : mp_P ca) (w : R) {a b : A} (h : mp_D a b) : mp_D (mp_im cu ca w a) (mp_im cu ca w b) := by
  obtain ⟨c, rfl⟩ := h
  exact ⟨mp_im cu ca w c, mp_im_mul hF HU HA w a c⟩
theorem mp_im_sz [Lean.Grind.CommRing R] [Lean.Grind.CommRing U] [Lean.Grind.CommRing A] {cu : U → Nat → R} {ca : A → Nat → U} (hF : mp_Fd R) (HU : mp_P cu) (HA : mp_P ca) {w : R} {a : A} (ha : a ≠ 0) (h : mp_e cu w (mp_lc ca a) ≠ 0) : mp_sz cu (mp_im cu ca w a) = mp_sz ca a := by
  obtain ⟨m, hm⟩ : ∃ m, mp_sz ca a = m + 1 := ⟨mp_sz ca a - 1, by have := mp_sz_pos HA ha; omega⟩
  rw [hm]
  rw [mp_lc, hm] at h
  exact mp_sz_eq HU (fun j hj => by rw [mp_im_cf hF HU HA, mp_sz_out HA (by omega), mp_e_0 HU (mp_Fd_nz hF)]) (by rw [mp_im_cf hF HU HA]; exact h)
/-- the head of a divisor stays where the head of the divided one does -/
theorem mp_lc_D [Lean.Grind.CommRing R] [Lean.Grind.CommRing U] [Lean.Grind.CommRing A] {cu : U → Nat → R} {ca : A → Nat → U} (hF : mp_Fd R) (HU : mp_P cu) (HA : mp_P ca) {w : R} {d a : A} (ha : a ≠ 0) (hd : mp_D d a) (h : mp_e cu w (mp_lc ca a) ≠ 0) : d ≠ 0 ∧ mp_D (mp_lc ca d) (mp_lc ca a) ∧ mp_e cu w (mp_lc ca d) ≠ 0 := by
  obtain ⟨c, rfl⟩ := hd
  have hd0 : d ≠ 0 := fun e => ha (by rw [e]; grind)
  have hc0 : c ≠ 0 := fun e => ha (by rw [e]; grind)
  have hl := (mp_lc_mul HA (mp_dom HU (mp_Fd_nz hF)) hd0 hc0).2
  refine ⟨hd0, ⟨mp_lc ca c, hl⟩, fun e => h ?_⟩
  rw [hl, mp_e_mul HU (mp_Fd_nz hF), e]
  grind
/-- a monic greatest common divisor, 0 of two 0s -/
def mq_mg [Lean.Grind.CommRing R] [Lean.Grind.CommRing U] (cu : U → Nat → R) (x y h : U) : Prop := mp_G x y h ∧ (h = 0 ∨ mp_lc cu h = 1)
/-- the monic content -/
def mq_ct [Lean.Grind.CommRing R] [Lean.Grind.CommRing U] [Lean.Grind.CommRing A] (cu : U → Nat → R) (ca : A → Nat → U) (a : A) (c : U) : Prop := mp_lc cu c = 1 ∧ mp_D (mp_C ca c) a ∧ ∀ d, mp_D (mp_C ca d) a → mp_D d c
theorem mq_lc_ne [Lean.Grind.CommRing R] [Lean.Grind.CommRing U] {cu : U → Nat → R} (hF : mp_Fd R) (HU : mp_P cu) {c : U} (h : mp_lc cu c = 1) : c ≠ 0 := fun e => hF.2 (by rw [← h, e, mp_lc, mp_zero HU])
/-- every common divisor is at most as long in t as that of the images -/
theorem mq_below [Lean.Grind.CommRing R] [Lean.Grind.CommRing U] [Lean.Grind.CommRing A] {cu : U → Nat → R} {ca : A → Nat → U} (hF : mp_Fd R) (HU : mp_P cu) (HA : mp_P ca) {a b : A} (ha : a ≠ 0) {w : R} {h : U} (hg : mq_mg cu (mp_im cu ca w a) (mp_im cu ca w b) h) (hh : mp_e cu w (mp_lc ca a) ≠ 0) : ∀ d, mp_D d a → mp_D d b → mp_sz ca d ≤ mp_sz cu h := by
  intro d h1 h2
  obtain ⟨hd0, -, h3⟩ := mp_lc_D hF HU HA ha h1 hh
  rw [← mp_im_sz hF HU HA hd0 h3]
  have h4 := hg.1.2.2 _ (mp_im_D hF HU HA w h1) (mp_im_D hF HU HA w h2)
  refine mp_D_sz HU (mp_Fd_nz hF) h4 (fun e => ?_)
  have h5 := hg.1.1
  rw [e] at h5
  obtain ⟨c, hc⟩ := h5
  have h6 := mp_im_sz hF HU HA ha hh
  rw [hc, show (0 : U) * c = 0 by grind, (mp_sz_0 HU).mpr rfl] at h6
  have := mp_sz_pos HA ha
  omega
/-- one that is as long as the images' divisor, and holds the whole content, is the greatest -/
theorem mq_found [Lean.Grind.CommRing R] [Lean.Grind.CommRing U] [Lean.Grind.CommRing A] {cu : U → Nat → R} {ca : A → Nat → U} (hF : mp_Fd R) (HU : mp_P cu) (HA : mp_P ca) {a b f p q : A} {c : U} (ha : a ≠ 0) (hc0 : c ≠ 0) (hc : ∀ d, mp_D (mp_C ca d) a → mp_D (mp_C ca d) b → mp_D d c) (hcf : mp_D (mp_C ca c) f) (hp : a = f * p) (hq : b = f * q) (hs : ∀ d, mp_D d a → mp_D d b → mp_sz ca d ≤ mp_sz ca f) : mp_Cp p q := by
  have hU := mp_dom HU (mp_Fd_nz hF)
  rintro d ⟨x, hx⟩ ⟨y, hy⟩
  have hf0 : f ≠ 0 := fun e => ha (by rw [hp, e]; grind)
  have hd0 : d ≠ 0 := fun e => ha (by rw [hp, hx, e]; grind)
  have h1 := hs (f * d) ⟨x, by grind⟩ ⟨y, by grind⟩
  have h2 := mp_sz_mul HA hU hf0 hd0
  have h3 := mp_sz_pos HA hd0
  have h4 := mp_sz_1 HA (a := d) (by omega)
  obtain ⟨z, hz⟩ := hcf
  have h5 : mp_D (c * ca d 0) c := by
    refine hc _ ?_ ?_
    · rw [mp_C_mulC HA, ← h4]; exact ⟨z * x, by grind⟩
    · rw [mp_C_mulC HA, ← h4]; exact ⟨z * y, by grind⟩
  obtain ⟨t, ht⟩ := h5
  rw [h4]
  exact mp_U_C HA ⟨t, mp_cancel hU hc0 (by grind)⟩
/-- the content, divided out -/
theorem mq_prim [Lean.Grind.CommRing R] [Lean.Grind.CommRing U] [Lean.Grind.CommRing A] {cu : U → Nat → R} {ca : A → Nat → U} (hF : mp_Fd R) (HU : mp_P cu) (HA : mp_P ca) {a a1 : A} {c : U} (h : mq_ct cu ca a c) (e : a = mp_C ca c * a1) : ∀ d, mp_D (mp_C ca d) a1 → mp_U d := by
  intro d ⟨y, hy⟩
  have hc0 := mq_lc_ne hF HU h.1
  obtain ⟨t, ht⟩ := h.2.2 (c * d) ⟨y, by rw [mp_C_mulC HA]; grind⟩
  exact ⟨t, mp_cancel (mp_dom HU (mp_Fd_nz hF)) hc0 (by grind)⟩
/-- a content there is -/
theorem mq_ct_ex [Lean.Grind.CommRing R] [Lean.Grind.CommRing U] [Lean.Grind.CommRing A] {cu : U → Nat → R} {ca : A → Nat → U} (hF : mp_Fd R) (HU : mp_P cu) (HA : mp_P ca) {a : A} (ha : a ≠ 0) : ∃ c, mq_ct cu ca a c := by
  have hU := mp_dom HU (mp_Fd_nz hF)
  have key : ∀ n, ∃ c, (∀ i, i < n → mp_D c (ca a i)) ∧ ∀ d, (∀ i, i < n → mp_D d (ca a i)) → mp_D d c := by
    intro n
    induction n with
    | zero => exact ⟨0, fun i h => absurd h (Nat.not_lt_zero _), fun d _ => mp_D_0 d⟩
    | succ n ih =>
      obtain ⟨c, h1, h2⟩ := ih
      obtain ⟨d, u, v, h3, h4, h5⟩ := mp_bez HU hF _ c (ca a n) (Nat.le_refl _)
      refine ⟨d, fun i hi => ?_, fun e he => ?_⟩
      · by_cases hn : i = n
        · rw [hn]; exact h5
        · exact mp_D_tr h4 (h1 i (by omega))
      · rw [h3]
        exact mp_D_add (mp_D_mul' (h2 e (fun i hi => he i (by omega))) u) (mp_D_mul' (he n (by omega)) v)
  obtain ⟨c, h1, h2⟩ := key (mp_sz ca a)
  have hc0 : c ≠ 0 := fun e => by
    have h3 := mp_sz_pos HA ha
    obtain ⟨y, hy⟩ := h1 (mp_sz ca a - 1) (by omega)
    exact mp_lc_ne HA ha (by rw [mp_lc, hy, e]; grind)
  obtain ⟨y, hy⟩ := hF.1 _ (mp_lc_ne HU hc0)
  have hy0 : y ≠ 0 := fun e => hF.2 (by rw [← hy, e]; grind)
  have hyu : mp_C cu y * mp_C cu (mp_lc cu c) = 1 := by rw [← mp_C_mulC HU, show y * mp_lc cu c = 1 by grind, mp_C_1 HU]
  refine ⟨mp_C cu y * c, ?_, (mp_C_D HA).mpr (fun n => ?_), fun d hd => ?_⟩
  · rw [(mp_lc_mul HU (mp_Fd_nz hF) (mp_C_ne HU hy0) hc0).2, show mp_lc cu (mp_C cu y) = y by rw [mp_lc, mp_sz_CE HU hy0, mp_C_cf HU]; rfl]
    grind
  · by_cases hn : n < mp_sz ca a
    · obtain ⟨z, hz⟩ := h1 n hn
      exact ⟨mp_C cu (mp_lc cu c) * z, by grind⟩
    · rw [mp_sz_out HA (by omega)]; exact mp_D_0 _
  · exact mp_D_mul' (h2 d (fun i _ => (mp_C_D HA).mp hd i)) _
theorem mq_gC [Lean.Grind.CommRing R] [Lean.Grind.CommRing U] [Lean.Grind.CommRing A] {cu : U → Nat → R} {ca : A → Nat → U} (hF : mp_Fd R) (HU : mp_P cu) (HA : mp_P ca) {c : U} {g a : A} (hc0 : c ≠ 0) (hg0 : g ≠ 0) (hg : ∀ d, mp_D (mp_C ca d) g → mp_U d) (h : mp_D g (mp_C ca c * a)) : mp_D g a := by
  have hU := mp_dom HU (mp_Fd_nz hF)
  refine mp_euclid hF HU HA hg0 (p := mp_C ca c) (fun d h1 h2 => ?_) h
  have hs := mp_D_sz HA hU h1 (mp_C_ne HA hc0)
  rw [mp_sz_CE HA hc0] at hs
  have he := mp_sz_1 HA hs
  rw [he] at h2 ⊢
  exact mp_U_C HA (hg _ h2)
set_option maxHeartbeats 4000000 in
/-- what find works towards -/
theorem mq_setup [Lean.Grind.CommRing R] [Lean.Grind.CommRing U] [Lean.Grind.CommRing A] {cu : U → Nat → R} {ca : A → Nat → U} (hF : mp_Fd R) (HU : mp_P cu) (HA : mp_P ca) {a b a1 b1 : A} {c1 c2 c lead : U} {m n D : Nat} (ha : a ≠ 0) (hb : b ≠ 0) (hc1 : mq_ct cu ca a c1) (hc2 : mq_ct cu ca b c2) (hc : mq_mg cu c1 c2 c) (ea : a = mp_C ca c1 * a1) (eb : b = mp_C ca c2 * b1) (hl : mq_mg cu (mp_lc ca a1) (mp_lc ca b1) lead)
    (hm : mp_sz ca a ≤ m + 1) (hn : mp_sz ca b ≤ n + 1) (hD1 : mp_xz cu ca a ≤ D + 1) (hD2 : mp_xz cu ca b ≤ D + 1) :
    ∃ (g h : A) (B : U), mp_D g a ∧ mp_D g b ∧ (∀ d, mp_D d a → mp_D d b → mp_D d g) ∧ g ≠ 0 ∧ mp_sz ca h = mp_sz ca g ∧ h ≠ 0 ∧ mp_xz cu ca h + 1 ≤ mp_xz cu ca a1 + mp_sz cu lead ∧ mp_xz cu ca h + 1 ≤ mp_xz cu ca b1 + mp_sz cu lead ∧
      (∀ w k, mp_e cu w (mp_lc ca a) ≠ 0 → mq_mg cu (mp_im cu ca w a) (mp_im cu ca w b) k → mp_sz cu k = mp_sz ca g → ∀ i, mp_e cu w lead * cu k i = mp_e cu w (ca h i)) ∧
      B ≠ 0 ∧ mp_sz cu B ≤ (m + n) * D + 3 * D + 1 ∧ (∀ w, mp_e cu w B ≠ 0 → mp_e cu w (mp_lc ca a) ≠ 0 ∧ mp_e cu w (mp_lc ca b) ≠ 0 ∧ ∀ k, mq_mg cu (mp_im cu ca w a) (mp_im cu ca w b) k → mp_sz cu k = mp_sz ca g) ∧
      (∀ k, mq_ct cu ca h k → ∃ f, mp_C ca k * f = mp_C ca c * h ∧ mp_D f a ∧ mp_D f b) := by
  have hU := mp_dom HU (mp_Fd_nz hF)
  have hAd := mp_dom HA hU
  obtain ⟨p, q, hlt⟩ := mp_lt_ex hF HU HA a hb
  obtain ⟨g, hg0, hpg, hqg, hG⟩ := mp_lt_g hAd hb hlt
  have hcp := mp_lt_cp hAd hb hlt
  obtain ⟨cg, hcg⟩ := mq_ct_ex hF HU HA hg0
  obtain ⟨g1, hg1⟩ := hcg.2.1
  have hprim := mq_prim hF HU HA hcg hg1
  have hcg0 := mq_lc_ne hF HU hcg.1
  have hc10 := mq_lc_ne hF HU hc1.1
  have hc20 := mq_lc_ne hF HU hc2.1
  have hg10 : g1 ≠ 0 := fun e => hg0 (by rw [hg1, e]; grind)
  have ha10 : a1 ≠ 0 := fun e => ha (by rw [ea, e]; grind)
  have hb10 : b1 ≠ 0 := fun e => hb (by rw [eb, e]; grind)
  have hga : mp_D g1 a1 := mq_gC hF HU HA hc10 hg10 hprim (by rw [← ea]; exact mp_D_tr ⟨mp_C ca cg, by grind⟩ hG.1)
  have hgb : mp_D g1 b1 := mq_gC hF HU HA hc20 hg10 hprim (by rw [← eb]; exact mp_D_tr ⟨mp_C ca cg, by grind⟩ hG.2.1)
  have hlg : mp_D (mp_lc ca g1) lead := by
    refine hl.1.2.2 _ ?_ ?_
    · obtain ⟨y, hy⟩ := hga
      have hy0 : y ≠ 0 := fun e => ha10 (by rw [hy, e]; grind)
      exact ⟨mp_lc ca y, by rw [hy]; exact (mp_lc_mul HA hU hg10 hy0).2⟩
    · obtain ⟨y, hy⟩ := hgb
      have hy0 : y ≠ 0 := fun e => hb10 (by rw [hy, e]; grind)
      exact ⟨mp_lc ca y, by rw [hy]; exact (mp_lc_mul HA hU hg10 hy0).2⟩
  obtain ⟨kap, hkap⟩ := hlg
  have hlead0 : lead ≠ 0 := fun e => by
    obtain ⟨y, hy⟩ := hl.1.1
    exact mp_lc_ne HA ha10 (by rw [hy, e]; grind)
  have hkap0 : kap ≠ 0 := fun e => hlead0 (by rw [hkap, e]; grind)
  have hp0 : p ≠ 0 := fun e => ha (by rw [hpg, e]; grind)
  have hq0 := hlt.1
  have hszg : mp_sz ca g = mp_sz ca g1 := by rw [hg1]; exact mp_sz_Cmul HA hU hcg0 g1
  have hszh : mp_sz ca (mp_C ca kap * g1) = mp_sz ca g := by rw [hszg]; exact mp_sz_Cmul HA hU hkap0 g1
  have hh0 : mp_C ca kap * g1 ≠ 0 := mp_nz_mul hAd (mp_C_ne HA hkap0) hg10
  have hxh := mp_xz_mul hF HU HA (mp_C_ne HA hkap0) hg10
  rw [mp_xz_C HU HA] at hxh
  have hsl := mp_sz_mul HU (mp_Fd_nz hF) (mp_lc_ne HA hg10) hkap0
  rw [← hkap] at hsl
  have hlg1 := mp_sz_pos HU (mp_lc_ne HA hg10)
  have hx1 : mp_xz cu ca g1 ≤ mp_xz cu ca a1 := mp_D_sz (mp_sw_P HU HA) hU hga ha10
  have hx2 : mp_xz cu ca g1 ≤ mp_xz cu ca b1 := mp_D_sz (mp_sw_P HU HA) hU hgb hb10
  obtain ⟨mp', hmp'⟩ : ∃ z, mp_sz ca p = z + 1 := ⟨mp_sz ca p - 1, by have := mp_sz_pos HA hp0; omega⟩
  obtain ⟨nq', hnq'⟩ : ∃ z, mp_sz ca q = z + 1 := ⟨mp_sz ca q - 1, by have := mp_sz_pos HA hq0; omega⟩
  have hDa : mp_D p a := ⟨g, hpg⟩
  have hDb : mp_D q b := ⟨g, hqg⟩
  have hs1 := mp_D_sz HA hU hDa ha
  have hs2 := mp_D_sz HA hU hDb hb
  have hx3 : mp_xz cu ca p ≤ mp_xz cu ca a := mp_D_sz (mp_sw_P HU HA) hU hDa ha
  have hx4 : mp_xz cu ca q ≤ mp_xz cu ca b := mp_D_sz (mp_sw_P HU HA) hU hDb hb
  obtain ⟨u, v, r, hr0, huv, hrs⟩ := mp_res hF HU HA hcp hmp' hnq' (D := D) (by omega) (by omega)
  have hlas : mp_sz cu (mp_lc ca a) ≤ D + 1 := Nat.le_trans (mp_xz_row HU HA a _) hD1
  have hlbs : mp_sz cu (mp_lc ca b) ≤ D + 1 := Nat.le_trans (mp_xz_row HU HA b _) hD2
  have hla0 := mp_lc_ne HA ha
  have hlb0 := mp_lc_ne HA hb
  have hUd := mp_Fd_nz hF
  have hlab0 := mp_nz_mul hU hla0 hlb0
  refine ⟨g, mp_C ca kap * g1, mp_lc ca a * mp_lc ca b * r, hG.1, hG.2.1, hG.2.2, hg0, hszh, hh0, by omega, by omega, ?_, mp_nz_mul hU hlab0 hr0, ?_, ?_, ?_⟩
  · intro w k hw hk hks i
    have hdg : mp_D g1 a := mp_D_tr ⟨mp_C ca cg, by grind⟩ hG.1
    have hdg2 : mp_D g1 b := mp_D_tr ⟨mp_C ca cg, by grind⟩ hG.2.1
    obtain ⟨-, -, h1⟩ := mp_lc_D hF HU HA ha hdg hw
    have h2 := hk.1.2.2 _ (mp_im_D hF HU HA w hdg) (mp_im_D hF HU HA w hdg2)
    have h3 := mp_im_sz hF HU HA hg10 h1
    have hk0 : k ≠ 0 := fun e => by
      rw [e, (mp_sz_0 HU).mpr rfl] at hks
      have := mp_sz_pos HA hg0
      omega
    obtain ⟨z, hz0, hz⟩ := mp_D_same HU hUd h2 hk0 (by omega)
    have hlk : mp_lc cu k = 1 := hk.2.resolve_left hk0
    have h4 : z * mp_e cu w (mp_lc ca g1) = 1 := by
      have h5 := hlk
      rw [mp_lc, hks, hszg, hz, mp_C_mul HU, mp_im_cf hF HU HA] at h5
      exact h5
    have h6 : cu k i = z * mp_e cu w (ca g1 i) := by rw [hz, mp_C_mul HU, mp_im_cf hF HU HA]
    rw [h6, mp_C_mul HA, mp_e_mul HU hUd, hkap, mp_e_mul HU hUd]
    grind
  · have h1 := mp_sz_mul HU hUd hla0 hlb0
    have h2 := mp_sz_mul HU hUd hlab0 hr0
    have h3 : (mp' + nq') * D ≤ (m + n) * D := Nat.mul_le_mul_right D (by omega)
    omega
  · intro w hw
    rw [mp_e_mul HU hUd, mp_e_mul HU hUd] at hw
    have w1 : mp_e cu w (mp_lc ca a) ≠ 0 := fun e => hw (by rw [e]; grind)
    have w2 : mp_e cu w (mp_lc ca b) ≠ 0 := fun e => hw (by rw [e]; grind)
    have w3 : mp_e cu w r ≠ 0 := fun e => hw (by rw [e]; grind)
    refine ⟨w1, w2, fun k hk => ?_⟩
    have h1 := mq_below hF HU HA ha hk w1 g hG.1 hG.2.1
    obtain ⟨-, -, w4⟩ := mp_lc_D hF HU HA ha hG.1 w1
    have h2 := mp_im_sz hF HU HA hg0 w4
    obtain ⟨y, hy⟩ := hF.1 _ w3
    have e1 : mp_im cu ca w u * mp_im cu ca w p + mp_im cu ca w v * mp_im cu ca w q = mp_C cu (mp_e cu w r) := by
      rw [← mp_im_mul hF HU HA, ← mp_im_mul hF HU HA, ← mp_im_add hF HU HA, huv, mp_im_C hF HU HA]
    have e2 : mp_im cu ca w a = mp_im cu ca w p * mp_im cu ca w g := by rw [hpg, mp_im_mul hF HU HA]
    have e3 : mp_im cu ca w b = mp_im cu ca w q * mp_im cu ca w g := by rw [hqg, mp_im_mul hF HU HA]
    have e4 : mp_C cu y * mp_C cu (mp_e cu w r) = 1 := by rw [← mp_C_mulC HU, show y * mp_e cu w r = 1 by grind, mp_C_1 HU]
    have e5 : mp_im cu ca w g = mp_C cu y * (mp_im cu ca w u * mp_im cu ca w a + mp_im cu ca w v * mp_im cu ca w b) := by grind
    have h3 : mp_D k (mp_im cu ca w g) := by
      rw [e5]
      exact mp_D_mul' (mp_D_add (mp_D_mul' hk.1.1 _) (mp_D_mul' hk.1.2.1 _)) _
    have hig : mp_im cu ca w g ≠ 0 := fun e => by
      rw [e, (mp_sz_0 HU).mpr rfl] at h2
      have := mp_sz_pos HA hg0
      omega
    have h4 := mp_D_sz HU hUd h3 hig
    omega
  · intro k hk
    have hk0 := mq_lc_ne hF HU hk.1
    obtain ⟨x, hx⟩ := hk.2.2 kap ⟨g1, rfl⟩
    have hx0 : x ≠ 0 := fun e => hk0 (by rw [hx, e]; grind)
    have hy : mp_D (mp_C ca x) g1 := by
      obtain ⟨z, hz⟩ := hk.2.1
      refine ⟨z, mp_cancel hAd (mp_C_ne HA hkap0) ?_⟩
      rw [hz, hx, mp_C_mulC HA]
      grind
    obtain ⟨y, hxy⟩ := hprim x hy
    have hxy2 : mp_C ca x * mp_C ca y = 1 := by rw [← mp_C_mulC HA, hxy, mp_C_1 HA]
    obtain ⟨d1, hd1⟩ := hc.1.1
    obtain ⟨d2, hd2⟩ := hc.1.2.1
    obtain ⟨z1, hz1⟩ := hga
    obtain ⟨z2, hz2⟩ := hgb
    refine ⟨mp_C ca y * (mp_C ca c * g1), ?_, ⟨mp_C ca x * mp_C ca d1 * z1, ?_⟩, ⟨mp_C ca x * mp_C ca d2 * z2, ?_⟩⟩
    · rw [hx, mp_C_mulC HA]; grind
    · rw [ea, hd1, hz1, mp_C_mulC HA]; grind
    · rw [eb, hd2, hz2, mp_C_mulC HA]; grind
end
