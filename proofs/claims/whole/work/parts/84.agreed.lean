/-! what class and reference keep is the same: lowest terms are unique, and so are the shared factors -/
section AG
variable {U V : Type}
theorem za_lcC {R A : Type} [Lean.Grind.CommRing R] [Lean.Grind.CommRing A] {cf : A → Nat → R} (H : mp_P cf) {c : R} (hc : c ≠ 0) : mp_lc cf (mp_C cf c) = c := by
  have h0 : mp_C cf c ≠ 0 := fun e => hc (by
    have := congrArg (fun x => cf x 0) e
    simpa [mp_C_cf H, mp_zero H] using this)
  have h1 := mp_sz_C H c
  have h2 := mp_sz_pos H h0
  rw [mp_lc, show mp_sz cf (mp_C cf c) - 1 = 0 by omega, mp_C_cf H, if_pos rfl]
theorem za_ne [Lean.Grind.CommRing U] [Lean.Grind.CommRing V] {cu : U → Nat → FP} {ca : V → Nat → U} (HU : mp_P cu) (HA : mp_P ca) {q : V} (h : mp_lc cu (mp_lc ca q) = 1) : q ≠ 0 := fun e => by
  rw [e] at h
  have e1 : mp_lc ca (0 : V) = 0 := by rw [mp_lc, mp_zero HA]
  have e2 : mp_lc cu (0 : U) = 0 := by rw [mp_lc, mp_zero HU]
  rw [e1, e2] at h
  exact (mp_Fd_nz mp_FP).2 h.symm
theorem za_unit [Lean.Grind.CommRing U] [Lean.Grind.CommRing V] {cu : U → Nat → FP} {ca : V → Nat → U} (HU : mp_P cu) (HA : mp_P ca) {q s : V} (hs : mp_U s) (h1 : mp_lc cu (mp_lc ca q) = 1) (h2 : mp_lc cu (mp_lc ca (q * s)) = 1) : s = 1 := by
  have hR := mp_Fd_nz mp_FP
  have hU := mp_dom HU hR
  have hV := mp_dom HA hU
  obtain ⟨r, hr, e⟩ := mp_unit mp_FP HU HA hs
  have hq := za_ne HU HA h1
  have hcr : mp_C cu r ≠ 0 := fun e1 => hr (by
    have := congrArg (fun x => cu x 0) e1
    simpa [mp_C_cf HU, mp_zero HU] using this)
  have hs0 : s ≠ 0 := fun e1 => by
    obtain ⟨c, hc⟩ := hs
    rw [e1] at hc
    exact hV.2 (by grind)
  rw [(mp_lc_mul HA hU hq hs0).2, e, za_lcC HA hcr, (mp_lc_mul HU hR (mp_lc_ne HA hq) hcr).2, h1, za_lcC HU hr] at h2
  have e3 : r = 1 := by grind
  rw [e, e3, mp_C_1 HU, mp_C_1 HA]
theorem za_low [Lean.Grind.CommRing U] [Lean.Grind.CommRing V] {cu : U → Nat → FP} {ca : V → Nat → U} (HU : mp_P cu) (HA : mp_P ca) {a b a9 b9 p q p9 q9 : V} (h : zLow cu ca a b p q) (h9 : zLow cu ca a9 b9 p9 q9) (hx : a * b9 = a9 * b) (hb : b ≠ 0) (hb9 : b9 ≠ 0) : p = p9 ∧ q = q9 := by
  have hR := mp_Fd_nz mp_FP
  have hU := mp_dom HU hR
  have hV := mp_dom HA hU
  obtain ⟨g, e1, e2, e3, e4⟩ := h
  obtain ⟨g9, f1, f2, f3, f4⟩ := h9
  have hq := za_ne HU HA e4
  have hq9 := za_ne HU HA f4
  have hg : g ≠ 0 := fun e => hb (by rw [e2, e]; grind)
  have hg9 : g9 ≠ 0 := fun e => hb9 (by rw [f2, e]; grind)
  have hgg : g * g9 ≠ 0 := fun e => (hV.1 _ _ e).elim hg hg9
  have hc : q9 * p = p9 * q := mp_cancel hV hgg (by
    rw [e1, e2, f1, f2] at hx
    grind)
  obtain ⟨s, s1, s2⟩ := (mp_cp_lt mp_FP HU HA hq e3).2.2 p9 q9 hc
  obtain ⟨s9, s3, s4⟩ := (mp_cp_lt mp_FP HU HA hq9 f3).2.2 p q (by grind)
  have hu : s * s9 = 1 := mp_cancel hV hq (by rw [s1] at s3; grind)
  rw [s1] at f4
  have e5 := za_unit HU HA ⟨s9, hu⟩ e4 f4
  rw [e5] at s1 s2
  exact ⟨by rw [s2]; grind, by rw [s1]; grind⟩
theorem za_cp0 [Lean.Grind.CommRing U] [Lean.Grind.CommRing V] {cu : U → Nat → FP} {ca : V → Nat → U} (HU : mp_P cu) (HA : mp_P ca) : ¬ mp_Cp (0 : V) 0 := fun h => by
  have hV := mp_dom HA (mp_dom HU (mp_Fd_nz mp_FP))
  obtain ⟨c, hc⟩ := h 0 ⟨0, by grind⟩ ⟨0, by grind⟩
  exact hV.2 (by rw [← hc]; grind)
theorem za_gcd1 [Lean.Grind.CommRing U] [Lean.Grind.CommRing V] {cu : U → Nat → FP} {ca : V → Nat → U} (HU : mp_P cu) (HA : mp_P ca) {f d x y x9 y9 : V} (hy : y ≠ 0) (e1 : f * x = d * x9) (e2 : f * y = d * y9) (h1 : mp_Cp x y) (h2 : mp_Cp x9 y9) (l1 : mp_lc cu (mp_lc ca f) = 1) (l2 : mp_lc cu (mp_lc ca d) = 1) : f = d ∧ x = x9 ∧ y = y9 := by
  have hR := mp_Fd_nz mp_FP
  have hU := mp_dom HU hR
  have hV := mp_dom HA hU
  have hf := za_ne HU HA l1
  have hd := za_ne HU HA l2
  have hy9 : y9 ≠ 0 := fun e => by
    rw [e] at e2
    exact (hV.1 f y (by rw [e2]; grind)).elim hf hy
  have hfd : f * d ≠ 0 := fun e => (hV.1 _ _ e).elim hf hd
  have hc : y9 * x = x9 * y := mp_cancel hV hfd (by
    have : (f * x) * (d * y9) = (d * x9) * (f * y) := by rw [e1, e2]
    grind)
  obtain ⟨s, s1, s2⟩ := (mp_cp_lt mp_FP HU HA hy h1).2.2 x9 y9 hc
  obtain ⟨s9, s3, s4⟩ := (mp_cp_lt mp_FP HU HA hy9 h2).2.2 x y (by grind)
  have hu : s * s9 = 1 := mp_cancel hV hy (by rw [s1] at s3; grind)
  have e3 : f = d * s := mp_cancel hV hy (by rw [s1] at e2; grind)
  have l3 := l1
  rw [e3] at l3
  have e5 := za_unit HU HA ⟨s9, hu⟩ l2 l3
  rw [e5] at s1 s2 e3
  exact ⟨by rw [e3]; grind, by rw [s2]; grind, by rw [s1]; grind⟩
theorem za_gcd [Lean.Grind.CommRing U] [Lean.Grind.CommRing V] {cu : U → Nat → FP} {ca : V → Nat → U} (HU : mp_P cu) (HA : mp_P ca) {f d x y x9 y9 : V} (e1 : f * x = d * x9) (e2 : f * y = d * y9) (h1 : mp_Cp x y) (h2 : mp_Cp x9 y9) (l1 : mp_lc cu (mp_lc ca f) = 1) (l2 : mp_lc cu (mp_lc ca d) = 1) : f = d ∧ x = x9 ∧ y = y9 := by
  by_cases hy : y = 0
  · have hx : x ≠ 0 := fun e => by
      rw [hy, e] at h1
      exact za_cp0 HU HA h1
    obtain ⟨a1, a2, a3⟩ := za_gcd1 HU HA hx e2 e1 (mp_cp_sym h1) (mp_cp_sym h2) l1 l2
    exact ⟨a1, a3, a2⟩
  · exact za_gcd1 HU HA hy e1 e2 h1 h2 l1 l2
/-! elements without t -/
theorem zl_div [Lean.Grind.CommRing U] [Lean.Grind.CommRing V] {cu : U → Nat → FP} {ca : V → Nat → U} (HU : mp_P cu) (HA : mp_P ca) {g p : V} (h : mp_sz ca (g * p) ≤ 1) (hg : g ≠ 0) : mp_sz ca p ≤ 1 := by
  by_cases hp : p = 0
  · rw [(mp_sz_0 HA).mpr hp]
    omega
  · have h1 := (mp_lc_mul HA (mp_dom HU (mp_Fd_nz mp_FP)) hg hp).1
    have h2 := mp_sz_pos HA hg
    omega
theorem zl_mul [Lean.Grind.CommRing U] [Lean.Grind.CommRing V] {ca : V → Nat → U} (HA : mp_P ca) {a b : V} (ha : mp_sz ca a ≤ 1) (hb : mp_sz ca b ≤ 1) : mp_sz ca (a * b) ≤ 1 := mp_sz_mul_le HA (m := 0) (n := 0) ha hb
theorem zl_C [Lean.Grind.CommRing U] [Lean.Grind.CommRing V] {ca : V → Nat → U} (HA : mp_P ca) (r : U) : mp_sz ca (mp_C ca r) ≤ 1 := mp_sz_C HA r
theorem zl_1 [Lean.Grind.CommRing U] [Lean.Grind.CommRing V] {ca : V → Nat → U} (HA : mp_P ca) : mp_sz ca (1 : V) ≤ 1 := mp_sz_le HA (fun n hn => by rw [mp_one HA, if_neg (by omega)])
theorem zl_0 [Lean.Grind.CommRing U] [Lean.Grind.CommRing V] {ca : V → Nat → U} (HA : mp_P ca) : mp_sz ca (0 : V) ≤ 1 := mp_sz_le HA (fun n hn => mp_zero HA n)
theorem md_d0 {R A : Type} [Lean.Grind.CommRing R] [Lean.Grind.CommRing A] {cf : A → Nat → R} (H : mp_P cf) : md_d cf (0 : A) = 0 := mp_ext H (fun n => by
  rw [md_d, mp_mk_cf H 0 (fun n _ => by rw [mp_zero H]; grind)]
  simp only [mp_zero H]
  grind)
theorem zl_x [Lean.Grind.CommRing U] [Lean.Grind.CommRing V] {cu : U → Nat → FP} {ca : V → Nat → U} (HU : mp_P cu) (HA : mp_P ca) {a : V} (ha : mp_sz ca a ≤ 1) : mp_sz ca (md_x cu ca a) ≤ 1 := mp_sz_le HA (fun n hn => by rw [md_x_cf HU HA, mp_sz_out HA (Nat.le_trans ha hn), md_d0 HU])
theorem md_x0 [Lean.Grind.CommRing U] [Lean.Grind.CommRing V] {cu : U → Nat → FP} {ca : V → Nat → U} (HU : mp_P cu) (HA : mp_P ca) : md_x cu ca (0 : V) = 0 := mp_ext HA (fun n => by rw [md_x_cf HU HA, mp_zero HA, md_d0 HU])
theorem md_xC [Lean.Grind.CommRing U] [Lean.Grind.CommRing V] {cu : U → Nat → FP} {ca : V → Nat → U} (HU : mp_P cu) (HA : mp_P ca) (u : U) : md_x cu ca (mp_C ca u) = mp_C ca (md_d cu u) := mp_ext HA (fun n => by
  rw [md_x_cf HU HA, mp_C_cf HA, mp_C_cf HA]
  split
  · rfl
  · exact md_d0 HU)
/-! what class and reference know together -/
def zJt [Lean.Grind.CommRing U] [Lean.Grind.CommRing V] (cu : U → Nat → FP) (ca : V → Nat → U) (EL : Int → V × V) (md kd : Int) (sA sB : U) (W sD : V) : Prop :=
  (kd = 0 → sA = 0 ∧ sB = 1 ∧ ∀ n, 0 ≤ n → n < md → mp_sz ca (EL n).1 ≤ 1 ∧ mp_sz ca (EL n).2 ≤ 1) ∧ sB ≠ 0 ∧ (kd ≠ 0 → mp_C ca sB * W = zW ca kd sA * sD ∧ sD ≠ 0) ∧ (kd ≠ 0 → ∃ u v : U, v ≠ 0 ∧ mp_sz cu u ≤ 32003 ∧ mp_sz cu v ≤ 32003 ∧ mp_Cp u v ∧ md_d cu u * v - u * md_d cu v ≠ 0 ∧ (kd = 1 → u ≠ 0 ∧ sB * (md_d cu u * v - u * md_d cu v) = sA * (u * v)) ∧ (kd = 2 → sB * (md_d cu u * v - u * md_d cu v) = sA * (v * v)))
def zAg [Lean.Grind.CommRing U] [Lean.Grind.CommRing V] (cu : U → Nat → FP) (ca : V → Nat → U) (S : zS) (M : zM) : Prop := ∃ (EL : Int → V × V) (md kd : Int) (sA sB : U) (W sD : V) (cd : Int), zC cu ca EL md kd sA sB S ∧ zGm cu ca EL md kd W sD cd M ∧ zJt cu ca EL md kd sA sB W sD
theorem zJ_up [Lean.Grind.CommRing U] [Lean.Grind.CommRing V] {cu : U → Nat → FP} {ca : V → Nat → U} {EL : Int → V × V} {md kd : Int} {sA sB : U} {W sD : V} {p q : V} (h : zJt cu ca EL md kd sA sB W sD) (hl : kd = 0 → mp_sz ca p ≤ 1 ∧ mp_sz ca q ≤ 1) : zJt cu ca (zUp EL md (p, q)) (md + 1) kd sA sB W sD := by
  refine ⟨fun k0 => ⟨(h.1 k0).1, (h.1 k0).2.1, fun n h1 h2 => ?_⟩, h.2⟩
  by_cases e : n = md
  · rw [e, zUp_s]
    exact hl k0
  · rw [zUp_n EL (p, q) e]
    exact (h.1 k0).2.2 n h1 (by omega)
theorem zGm_cd [Lean.Grind.CommRing U] [Lean.Grind.CommRing V] {cu : U → Nat → FP} {ca : V → Nat → U} {EL : Int → V × V} {md kd : Int} {W sD : V} {cd : Int} {M : zM} (h : zGm cu ca EL md kd W sD cd M) : M.2.2.1 = cd := by
  obtain ⟨⟨F, T, h1, h2⟩, -⟩ := h
  have e : zTm M = T := h1.1.2
  rw [← h2.2.1, ← e]
  rfl
theorem zGm_md [Lean.Grind.CommRing U] [Lean.Grind.CommRing V] {cu : U → Nat → FP} {ca : V → Nat → U} {EL : Int → V × V} {md kd : Int} {W sD : V} {cd : Int} {M : zM} (h : zGm cu ca EL md kd W sD cd M) : M.2.2.2.1 = md := by
  obtain ⟨⟨F, T, h1, h2⟩, -⟩ := h
  have e : zTm M = T := h1.1.2
  rw [← h2.2.2.1, ← e]
  rfl
section
theorem zC_md [Lean.Grind.CommRing U] [Lean.Grind.CommRing V] {cu : U → Nat → FP} {ca : V → Nat → U} {EL : Int → V × V} {md kd : Int} {sA sB : U} {S : zS} (h : zC cu ca EL md kd sA sB S) : 0 ≤ md ∧ md ≤ 120 := by
  obtain ⟨P, T, h1, h2, h3, h4⟩ := h
  exact ⟨by rw [← h3]; exact h2.1, by rw [← h3]; exact h2.2.1⟩
theorem zC_mdS [Lean.Grind.CommRing U] [Lean.Grind.CommRing V] {cu : U → Nat → FP} {ca : V → Nat → U} {EL : Int → V × V} {md kd : Int} {sA sB : U} {S : zS} (h : zC cu ca EL md kd sA sB S) : S.2.2.2.2.1 = md := by
  obtain ⟨P, T, h1, h2, h3, h4⟩ := h
  have e : S.2.2.2 = T := h1.2.2.2.2.2
  rw [← h3, ← e]
theorem zC_nf [Lean.Grind.CommRing U] [Lean.Grind.CommRing V] {cu : U → Nat → FP} {ca : V → Nat → U} {EL : Int → V × V} {md kd : Int} {sA sB : U} {S : zS} (h : zC cu ca EL md kd sA sB S) {n : Int} (h0 : 0 ≤ n) (h1 : n < md) : zNf cu ca (EL n).1 (EL n).2 := by
  obtain ⟨P, T, -, -, -, -, -, -, -, h2, -⟩ := h
  exact h2 n h0 h1
theorem zC_fit [Lean.Grind.CommRing U] [Lean.Grind.CommRing V] {cu : U → Nat → FP} {ca : V → Nat → U} {EL : Int → V × V} {md kd : Int} {sA sB : U} {S : zS} (h : zC cu ca EL md kd sA sB S) {n : Int} (h0 : 0 ≤ n) (h1 : n < md) : zFits cu ca (EL n).1 (EL n).2 := by
  obtain ⟨P, T, -, h2, h3, -⟩ := h
  have h4 := h2.2.2 n h0 (by rw [h3]; exact h1)
  exact ⟨h4.1.2, h4.2.2⟩
theorem zC_kd [Lean.Grind.CommRing U] [Lean.Grind.CommRing V] {cu : U → Nat → FP} {ca : V → Nat → U} {EL : Int → V × V} {md kd : Int} {sA sB : U} {S : zS} (h : zC cu ca EL md kd sA sB S) : 0 ≤ kd ∧ kd ≤ 2 := by
  obtain ⟨P, T, -, -, -, -, -, -, -, -, -, -, h2⟩ := h
  exact h2
theorem zC_fits [Lean.Grind.CommRing U] [Lean.Grind.CommRing V] {cu : U → Nat → FP} {ca : V → Nat → U} {EL : Int → V × V} {md kd : Int} {sA sB : U} {S : zS} {p q : V} (hm : 0 ≤ md) (h : zC cu ca (zUp EL md (p, q)) (md + 1) kd sA sB S) : zFits cu ca p q := by
  have := zC_fit h hm (by omega)
  rwa [zUp_s] at this
end
end AG
