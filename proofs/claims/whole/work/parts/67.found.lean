/-! what the first dependence tells -/
section
variable {U A : Type}
theorem mz_CC1 [Lean.Grind.CommRing U] [Lean.Grind.CommRing A] {cu : U → Nat → FP} {ca : A → Nat → U} (HU : mp_P cu) (HA : mp_P ca) {s r : FP} (h : s * r = 1) : mp_C ca (mp_C cu s) * mp_C ca (mp_C cu r) = 1 := by
  rw [← mp_C_mulC HA, ← mp_C_mulC HU, h, mp_C_1 HU, mp_C_1 HA]
theorem mz_lc [Lean.Grind.CommRing U] [Lean.Grind.CommRing A] {cu : U → Nat → FP} {ca : A → Nat → U} (HU : mp_P cu) (HA : mp_P ca) {s : FP} (hs : s ≠ 0) (q : A) : mp_lc cu (mp_lc ca (mp_C ca (mp_C cu s) * q)) = s * mp_lc cu (mp_lc ca q) := by
  have hR := mp_Fd_nz mp_FP
  have hU := mp_dom HU hR
  have e1 : mp_lc ca (mp_C ca (mp_C cu s) * q) = mp_C cu s * mp_lc ca q := by
    rw [mp_lc, mp_sz_Cmul HA hU (mp_C_ne HU hs), mp_C_mul HA]
    rfl
  rw [e1, mp_lc, mp_sz_Cmul HU hR hs, mp_C_mul HU]
  rfl
theorem mz_box [Lean.Grind.CommRing U] [Lean.Grind.CommRing A] {cu : U → Nat → FP} {ca : A → Nat → U} (HU : mp_P cu) (HA : mp_P ca) (s : FP) {q : A} (h : mk_box cu ca q) : mk_box cu ca (mp_C ca (mp_C cu s) * q) := by
  refine ⟨mp_sz_le HA (fun n hn => ?_), mp_xz_le HU HA (fun i => mp_sz_le HU (fun n hn => ?_))⟩
  · rw [mp_C_mul HA, mp_sz_out HA (Nat.le_trans h.1 hn)]; grind
  · rw [mp_CC_mul HU HA, mp_sz_out HU (Nat.le_trans (Nat.le_trans (mp_xz_row HU HA q i) h.2) hn)]; grind
theorem mz_low [Lean.Grind.CommRing U] [Lean.Grind.CommRing A] {cu : U → Nat → FP} {ca : A → Nat → U} (HU : mp_P cu) (HA : mp_P ca) {a b p q g : A} {s : FP} (h1 : a = p * g) (h2 : b = q * g) (hc : mp_Cp p q) (hs : s * mp_lc cu (mp_lc ca q) = 1) : zLow cu ca a b (mp_C ca (mp_C cu s) * p) (mp_C ca (mp_C cu s) * q) := by
  have hs0 : s ≠ 0 := fun e => mp_FP.2 (by rw [← hs, e]; grind)
  have e := mz_CC1 HU HA hs
  have e2 : ∀ d x : A, mp_D d (mp_C ca (mp_C cu s) * x) → mp_D d x := fun d x hd => by
    obtain ⟨c, hc⟩ := hd
    exact ⟨c * mp_C ca (mp_C cu (mp_lc cu (mp_lc ca q))), by grind⟩
  exact ⟨g * mp_C ca (mp_C cu (mp_lc cu (mp_lc ca q))), by grind, by grind, fun d hd1 hd2 => hc d (e2 d p hd1) (e2 d q hd2), by rw [mz_lc HU HA hs0]; exact hs⟩
theorem mk_V_cf [Lean.Grind.CommRing U] [Lean.Grind.CommRing A] {cu : U → Nat → FP} {ca : A → Nat → U} (HU : mp_P cu) (a b : A) (k j : Nat) : cu (mk_V cu ca a b k) j = if 40 * (k / 2 / 7) + k / 2 % 7 ≤ j then cu (mk_K cu ca (if k % 2 = 0 then a else b)) (j - (40 * (k / 2 / 7) + k / 2 % 7)) else 0 := by
  rw [mk_V, mp_m_mul HU]
  split
  · grind
  · rfl
theorem mk_V_out [Lean.Grind.CommRing U] [Lean.Grind.CommRing A] {cu : U → Nat → FP} {ca : A → Nat → U} (HU : mp_P cu) (HA : mp_P ca) {a b : A} (ha1 : mp_xz cu ca a ≤ 34) (hb1 : mp_xz cu ca b ≤ 34) (ha2 : mp_sz ca a ≤ 15) (hb2 : mp_sz ca b ≤ 15) {k j : Nat} (hk : k < 98) (hj : 880 ≤ j) : cu (mk_V cu ca a b k) j = 0 := by
  rw [mk_V_cf HU, if_pos (by omega)]
  refine mp_sz_out HU ?_
  split
  · exact Nat.le_trans (mk_sz HU HA (by omega) ha2) (by omega)
  · exact Nat.le_trans (mk_sz HU HA (by omega) hb2) (by omega)
theorem mr_true [Lean.Grind.CommRing U] [Lean.Grind.CommRing A] {cu : U → Nat → FP} {ca : A → Nat → U} (HU : mp_P cu) (HA : mp_P ca) {a b : A} (hb : b ≠ 0) (ha1 : mp_xz cu ca a ≤ 34) (hb1 : mp_xz cu ca b ≤ 34) (ha2 : mp_sz ca a ≤ 15) (hb2 : mp_sz ca b ≤ 15) {col fr f : Nat → FP} {pv : Nat → Nat} {n : Nat} (hn : n < 98) (hI : mh_I (fun k j => cu (mk_V cu ca a b k) j) n col fr pv) (hf1 : f n = 1) (hf2 : ∀ k, n < k → k < 98 → f k = 0) (hf : ∀ j, j < 880 → mp_S 98 (fun k => f k * cu (mk_V cu ca a b k) j) = 0) :
    mk_of cu ca (fun k => f (2 * k)) ≠ 0 ∧ zLow cu ca a b (mp_C ca (mp_C cu (mf_inv (mp_lc cu (mp_lc ca (mk_of cu ca (fun k => f (2 * k))))))) * mk_of cu ca (fun k => -f (2 * k + 1))) (mp_C ca (mp_C cu (mf_inv (mp_lc cu (mp_lc ca (mk_of cu ca (fun k => f (2 * k))))))) * mk_of cu ca (fun k => f (2 * k))) := by
  have hU := mp_dom HU (mp_Fd_nz mp_FP)
  have hAd := mp_dom HA hU
  obtain ⟨p, q, hl⟩ := mp_lt_ex mp_FP HU HA a hb
  have hS : mp_S 98 (fun k => mp_C cu (f k) * mk_V cu ca a b k) = 0 := mp_ext HU (fun j => by
    rw [mp_sum HU, mp_zero HU]
    simp only [mp_C_mul HU]
    by_cases hj : j < 880
    · exact hf j hj
    · exact mp_S_zero (fun i hi => by rw [mk_V_out HU HA ha1 hb1 ha2 hb2 hi (by omega)]; grind))
  obtain ⟨r, hr, e1, e2, -, -⟩ := mk_true HU HA hb ha1 hb1 hl hn (by rw [hf1]; exact mp_FP.2) hf2 hS (fun c hc => mh_ind HU (by omega) hI c hc)
  obtain ⟨g, hg, g1, g2, -⟩ := mp_lt_g hAd hb hl
  have hq0 := hl.1
  have hcp := mp_lt_cp hAd hb hl
  have hl0 : mp_lc cu (mp_lc ca q) ≠ 0 := mp_lc_ne HU (mp_lc_ne HA hq0)
  have hne : mk_of cu ca (fun k => f (2 * k)) ≠ 0 := by
    rw [e1]
    exact mp_nz_mul hAd (mp_C_ne HA (mp_C_ne HU hr)) hq0
  refine ⟨hne, ?_⟩
  have hl2 : mp_lc cu (mp_lc ca (mk_of cu ca (fun k => f (2 * k)))) = r * mp_lc cu (mp_lc ca q) := by rw [e1, mz_lc HU HA hr]
  have hi := mf_mul_inv (mp_lc_ne HU (mp_lc_ne HA hne))
  rw [e2]
  rw [hl2] at hi
  rw [hl2, e1]
  have := mz_low HU HA (s := mf_inv (r * mp_lc cu (mp_lc ca q)) * r) g1 g2 hcp (by grind)
  rw [mp_C_mulC HU, mp_C_mulC HA] at this
  rw [show ∀ x : A, mp_C ca (mp_C cu (mf_inv (r * mp_lc cu (mp_lc ca q)))) * (mp_C ca (mp_C cu r) * x) = mp_C ca (mp_C cu (mf_inv (r * mp_lc cu (mp_lc ca q)))) * mp_C ca (mp_C cu r) * x from fun x => by grind, show ∀ x : A, mp_C ca (mp_C cu (mf_inv (r * mp_lc cu (mp_lc ca q)))) * (mp_C ca (mp_C cu r) * x) = mp_C ca (mp_C cu (mf_inv (r * mp_lc cu (mp_lc ca q)))) * mp_C ca (mp_C cu r) * x from fun x => by grind]
  exact this
theorem mr_false [Lean.Grind.CommRing U] [Lean.Grind.CommRing A] {cu : U → Nat → FP} {ca : A → Nat → U} (HU : mp_P cu) (HA : mp_P ca) {a b : A} (hb : b ≠ 0) (ha1 : mp_xz cu ca a ≤ 34) (hb1 : mp_xz cu ca b ≤ 34) {col fr : Nat → FP} {pv : Nat → Nat} (hI : mh_I (fun k j => cu (mk_V cu ca a b k) j) 98 col fr pv) : ∃ p q, zLow cu ca a b p q ∧ ¬ (mk_box cu ca p ∧ mk_box cu ca q) := by
  have hU := mp_dom HU (mp_Fd_nz mp_FP)
  have hAd := mp_dom HA hU
  obtain ⟨p, q, hl⟩ := mp_lt_ex mp_FP HU HA a hb
  obtain ⟨g, hg, g1, g2, -⟩ := mp_lt_g hAd hb hl
  have hl0 : mp_lc cu (mp_lc ca q) ≠ 0 := mp_lc_ne HU (mp_lc_ne HA hl.1)
  have hi := mf_mul_inv hl0
  have hi2 : mf_inv (mp_lc cu (mp_lc ca q)) * mp_lc cu (mp_lc ca q) = 1 := by grind
  have e := mz_CC1 HU HA hi
  have eb : ∀ x : A, mk_box cu ca (mp_C ca (mp_C cu (mf_inv (mp_lc cu (mp_lc ca q)))) * x) → mk_box cu ca x := fun x hx => by
    have := mz_box HU HA (mp_lc cu (mp_lc ca q)) hx
    rwa [show mp_C ca (mp_C cu (mp_lc cu (mp_lc ca q))) * (mp_C ca (mp_C cu (mf_inv (mp_lc cu (mp_lc ca q)))) * x) = x by grind] at this
  exact ⟨_, _, mz_low HU HA g1 g2 (mp_lt_cp hAd hb hl) hi2, fun h => mk_false HU HA hb ha1 hb1 hl (fun c hc => mh_ind HU (by omega) hI c hc) ⟨eb p h.1, eb q h.2⟩⟩
end
