section
variable {U A : Type}
/-- what is pieced together after np points below pt -/
def zJ [Lean.Grind.CommRing U] [Lean.Grind.CommRing A] (cu : U → Nat → FP) (ca : A → Nat → U) (h : A) (G : Nat) (dg np pt : Int) (f : A) (nn : U) : Prop :=
  mp_sz ca f ≤ dg + 1 ∧ (∀ i, mp_sz cu (ca f i) ≤ np) ∧ mp_sz cu nn = np + 1 ∧ (∀ i : Nat, pt ≤ i → i < 32003 → mp_e cu (mf_n i) nn ≠ 0) ∧ (G = dg + 1 → ∀ i, mp_D nn (ca f i - ca h i)) ∧ (0 < np → ∃ b : FP, mp_e cu b nn = 0 ∧ mp_e cu b (ca f dg.toNat) ≠ 0)
theorem zJ_0 [Lean.Grind.CommRing U] [Lean.Grind.CommRing A] {cu : U → Nat → FP} {ca : A → Nat → U} (HU : mp_P cu) (HA : mp_P ca) (h : A) (G : Nat) {dg : Int} (pt : Int) (hd : 0 ≤ dg) : zJ cu ca h G dg 0 pt 0 1 := by
  refine ⟨by rw [(mp_sz_0 HA).mpr rfl]; omega, fun i => by rw [mp_zero HA, (mp_sz_0 HU).mpr rfl]; omega, ?_, fun i _ _ => by rw [mp_e_1 HU (mp_Fd_nz mp_FP)]; exact mp_FP.2, fun _ i => zd_1D _, fun z => absurd z (by omega)⟩
  rw [← mp_C_1 HU, mp_sz_CE HU mp_FP.2]
  omega
theorem zJ_sz [Lean.Grind.CommRing U] [Lean.Grind.CommRing A] {cu : U → Nat → FP} {ca : A → Nat → U} (HU : mp_P cu) (HA : mp_P ca) {h f : A} {nn : U} {G : Nat} {dg np pt : Int} (J : zJ cu ca h G dg np pt f nn) (hp : 0 < np) (hd : 0 ≤ dg) : (mp_sz ca f : Int) = dg + 1 ∧ f ≠ 0 := by
  obtain ⟨j1, -, -, -, -, j6⟩ := J
  obtain ⟨b, -, h1⟩ := j6 hp
  have h2 : ca f dg.toNat ≠ 0 := fun z => h1 (by rw [z, mp_e_0 HU (mp_Fd_nz mp_FP)])
  have h3 := mp_sz_lt HA h2
  exact ⟨by omega, fun z => by rw [(mp_sz_0 HA).mpr z] at h3; omega⟩
theorem zJ_end [Lean.Grind.CommRing U] [Lean.Grind.CommRing A] {cu : U → Nat → FP} {ca : A → Nat → U} (HU : mp_P cu) (HA : mp_P ca) {h f : A} {nn : U} {G : Nat} {dg np pt : Int} (J : zJ cu ca h G dg np pt f nn) (hG : G = dg + 1) (hx : mp_xz cu ca h ≤ np) : f = h := mp_ext HA (fun i => by
  obtain ⟨-, j2, j3, -, j5, -⟩ := J
  have h1 := j5 hG i
  have h2 := j2 i
  have h3 := mp_xz_row HU HA h i
  by_cases e : ca f i - ca h i = 0
  · grind
  · have h4 := mp_D_sz HU (mp_Fd_nz mp_FP) h1 e
    have h5 : mp_sz cu (ca f i - ca h i) ≤ np.toNat := by
      rw [show ca f i - ca h i = ca f i + -ca h i by grind]
      exact mp_sz_add HU (by omega) (mp_sz_neg HU (by omega))
    omega)
theorem zJ_step [Lean.Grind.CommRing U] [Lean.Grind.CommRing A] {cu : U → Nat → FP} {ca : A → Nat → U} (HU : mp_P cu) (HA : mp_P ca) {h f f9 : A} {nn k ld : U} {G : Nat} {dg np pt : Int} (J : zJ cu ca h G dg np pt f nn) (hd : 0 ≤ dg) (hp : 0 ≤ pt) (hp2 : pt < 32003) (hn0 : 0 ≤ np) (hk : (mp_sz cu k : Int) = dg + 1) (hlk : mp_lc cu k = 1) (hld : mp_e cu (mf_n pt.toNat) ld ≠ 0) (hh : mp_sz ca h = G) (hkh : G = dg + 1 → ∀ i, mp_e cu (mf_n pt.toNat) ld * cu k i = mp_e cu (mf_n pt.toNat) (ca h i))
    (hf9 : ∀ j, ca f9 j = (if j < mp_sz cu k then ca f j + mp_m cu ((mp_e cu (mf_n pt.toNat) ld * cu k j - mp_e cu (mf_n pt.toNat) (ca f j)) * mf_inv (mp_e cu (mf_n pt.toNat) nn)) 0 * nn else ca f j)) : zJ cu ca h G dg (np + 1) (pt + 1) f9 (mp_X cu (mf_n pt.toNat) * nn) := by
  obtain ⟨j1, j2, j3, j4, j5, j6⟩ := J
  have hF := mp_Fd_nz mp_FP
  obtain ⟨w, hw⟩ : ∃ w : FP, w = mf_n pt.toNat := ⟨_, rfl⟩
  have hnn0 : nn ≠ 0 := fun z => by rw [(mp_sz_0 HU).mpr z] at j3; omega
  have hev := j4 pt.toNat (by omega) (by omega)
  rw [← hw] at hld hkh hf9 hev ⊢
  have hinv := mf_mul_inv hev
  have eX : ∀ v, mp_e cu v (mp_X cu w * nn) = (v - w) * mp_e cu v nn := fun v => by rw [mp_e_mul HU hF, mp_e_X HU hF]
  have val : ∀ j, j < mp_sz cu k → mp_e cu w (ca f9 j) = mp_e cu w ld * cu k j := fun j hj => by
    rw [hf9 j, if_pos hj, mp_e_add HU hF, mp_e_mul HU hF, show ∀ r : FP, mp_m cu r 0 = mp_C cu r from fun _ => rfl, mp_e_C HU hF]
    grind
  have valb : ∀ (b : FP) j, mp_e cu b nn = 0 → mp_e cu b (ca f9 j) = mp_e cu b (ca f j) := fun b j hb => by
    rw [hf9 j]
    split
    · rw [mp_e_add HU hF, mp_e_mul HU hF, hb]; grind
    · rfl
  have out : ∀ j, mp_sz cu k ≤ j → ca f9 j = 0 := fun j hj => by rw [hf9 j, if_neg (by omega), mp_sz_out HA (by omega)]
  refine ⟨?_, fun i => ?_, ?_, fun i h1 h2 => ?_, fun hG i => ?_, fun _ => ?_⟩
  · have := mp_sz_le HA (a := f9) (M := mp_sz cu k) (fun n hn => out n hn)
    omega
  · have h1 : mp_sz cu (ca f9 i) ≤ (np + 1).toNat := by
      rw [hf9 i]
      have h2 := j2 i
      split
      · refine mp_sz_add HU (by omega) ?_
        have h3 := mp_sz_mul_le HU (m := 0) (n := np.toNat) (a := mp_m cu ((mp_e cu w ld * cu k i - mp_e cu w (ca f i)) * mf_inv (mp_e cu w nn)) 0) (b := nn) (mp_sz_le HU (fun n hn => by rw [mp_m_cf HU, if_neg (by omega)])) (by omega)
        omega
      · omega
    omega
  · have := mp_sz_mul HU hF (mp_X_ne HU hF w) hnn0
    rw [mp_X_sz HU hF] at this
    omega
  · rw [eX]
    refine mp_nz_mul hF (fun z => ?_) (j4 i (by omega) h2)
    have h3 : mf_n i = mf_n pt.toNat := by rw [← hw]; grind
    have := mf_n_inj h2 (by omega) h3
    omega
  · by_cases hi : i < mp_sz cu k
    · have h1 : mp_e cu w (ca f9 i - ca h i) = 0 := by rw [mp_e_sub HU hF, val i hi, hkh hG i]; grind
      have h2 : mp_D nn (ca f9 i - ca h i) := by
        obtain ⟨q, hq⟩ := j5 hG i
        refine ⟨q + mp_m cu ((mp_e cu w ld * cu k i - mp_e cu w (ca f i)) * mf_inv (mp_e cu w nn)) 0, ?_⟩
        rw [hf9 i, if_pos hi]
        grind
      obtain ⟨q, hq⟩ := h2
      rw [hq, mp_e_mul HU hF] at h1
      obtain ⟨q2, hq2⟩ := mp_e_D HU hF w (a := q) ((hF.1 _ _ h1).resolve_left hev)
      exact ⟨q2, by rw [hq, hq2]; grind⟩
    · rw [out i (by omega), mp_sz_out HA (a := h) (by omega), show (0 : U) - 0 = 0 by grind]
      exact mp_D_0 _
  · by_cases hnp : 0 < np
    · obtain ⟨b, b1, b2⟩ := j6 hnp
      exact ⟨b, by rw [eX, b1]; grind, by rw [valb b _ b1]; exact b2⟩
    · refine ⟨w, by rw [eX]; grind, ?_⟩
      rw [val _ (by omega)]
      rw [mp_lc, show mp_sz cu k - 1 = dg.toNat by omega] at hlk
      rw [hlk]
      grind
/-- what find leaves -/
def zFo [Lean.Grind.CommRing U] [Lean.Grind.CommRing A] (cu : U → Nat → FP) (ca : A → Nat → U) (P9 : Nat → U) (a b : A) : Prop := ∃ f : A, zV ca P9 9 f ∧ ((a = 0 ∧ b = 0 ∧ f = 0) ∨ (mp_lc cu (mp_lc ca f) = 1 ∧ ∃ x y, zV ca P9 10 x ∧ zV ca P9 11 y ∧ a = f * x ∧ b = f * y ∧ mp_Cp x y))
end
set_option maxHeartbeats 8000000 in
set_option maxRecDepth 100000 in
/-- the greatest common divisor and the two through it -/
theorem c_X0_find {U V : Type} [Lean.Grind.CommRing U] [Lean.Grind.CommRing V] {cu : U → Nat → FP} {ca : V → Nat → U} (HU : mp_P cu) (HA : mp_P ca) (l : Launch) {D : va_G} {ad : Nat → Nat} {cI cO : ClassId} {P : Nat → U} {T : zRest} {S : zS} (hR : zR cu P T S) {q1 q2 : Nat} (hq1 : q1 < 9) (hq2 : q2 < 9) {a b : V} (hva : zV ca P q1 a) (hvb : zV ca P q2 b) (hxa : mp_xz cu ca a ≤ 26) (hxb : mp_xz cu ca b ≤ 26) : zMv l yX0_find cX0_find 9 5 D (zTy cI cO) 419 ad [.ref (ad 2), .ref (ad (q1 + 3)), .ref (ad (q2 + 3))] (gC ad cI cO S) (gC ad cI cO) (fun u => ∃ (P9 : Nat → U), zR cu P9 T u ∧ (∀ j, (j < 117 ∨ j = 182 ∨ j = 183) → P9 j = P j) ∧ zFo cu ca P9 a b) := by
  have hFN := mp_Fd_nz mp_FP
  have hUd := mp_dom HU hFN
  have hAd := mp_dom HA hUd
  have hsa := hva.2
  have hsb := hvb.2
  refine z_gov zm_X0_find (Nat.le_of_ble_eq_true rfl) [(0, .ref (ad 2)), (1, .ref (ad (q1 + 3))), (2, .ref (ad (q2 + 3)))] rfl (fun p e s m args below meth c A Q X E => ?_)
  have hq1' : q1 < 14 := by omega
  have hq2' : q2 < 14 := by omega
  refine z_aload_n X 1 rfl rfl dX0_find_0 ?_
  refine z_callVi X zm_X2_isZero zw419 zw420 zw431 (zFit_of (by decide) (by decide)) [] (c_X2_isZero HU HA l hR (q := q1) (by omega) hva) rfl rfl (Nat.le_of_ble_eq_true rfl) (by omega) (gC_P (by omega)) (q := vwCl[4]) rfl rfl dX0_find_1 (fun z _ hz => ?_)
  have ea : a = 0 ∨ a ≠ 0 := Classical.em _
  have ha1 : z = 0 → a ≠ 0 := fun h0 q => by rw [if_pos q] at hz; omega
  have ha2 : ¬ z = 0 → a = 0 := fun h0 => Classical.byContradiction (fun q => by rw [if_neg q] at hz; omega)
  have hz01 : z = 0 ∨ z = 1 := by rw [hz]; split <;> omega
  refine z_if_ne X (tgt := 14) (by omega) dX0_find_4 (by decide) (fun hb4 => ?_) (fun hb4 => ?_)
  · refine z_aload_n X 0 rfl rfl dX0_find_14 ?_
    refine z_get X zinX0 2 (by omega) gC_D (ci := 2) rfl 0 (by decide) (ref := "TowerFields$Divisor") zw63 rfl rfl dX0_find_15 ?_
    refine z_aload_n X 1 rfl rfl dX0_find_18 ?_
    refine z_callVi X zm_X2_isZero zw419 zw420 zw431 (zFit_of (by decide) (by decide)) [] (c_X2_isZero HU HA l hR (q := q1) (by omega) hva) rfl rfl (Nat.le_of_ble_eq_true rfl) (by omega) (gC_P (by omega)) (q := vwCl[4]) rfl rfl dX0_find_19 (fun z3 _ hz3 => ?_)
    have h31 : z3 = 0 → a ≠ 0 := fun h0 q => by rw [if_pos q] at hz3; omega
    have h32 : ¬ z3 = 0 → a = 0 := fun h0 => Classical.byContradiction (fun q => by rw [if_neg q] at hz3; omega)
    have hz301 : z3 = 0 ∨ z3 = 1 := by rw [hz3]; split <;> omega
    refine z_if_eq X (tgt := 29) (by omega) dX0_find_22 (by decide) (fun hb22 => ?_) (fun hb22 => ?_)
    · refine z_aload_n X 1 rfl rfl dX0_find_29 ?_
      obtain ⟨v, hv0, hvv⟩ : ∃ v, v = a ∧ zV ca P q1 v := ⟨_, rfl, hva⟩
      have hoz : b = 0 := by first | exact hb2 (by omega) | exact absurd (ha2 (by omega)) (h31 (by omega)) | exact h32 (by omega)
      refine z_callVv X zm_X2_copyOf zw433 zw434 zw432 (zFit_of (by decide) (by decide)) [.ref (ad (q1 + 3))] (c_X2_copyOf HU l hR (q := 9) (q2 := q1) (by omega) (by omega) (by omega)) rfl rfl (Nat.le_of_ble_eq_true rfl) (by omega) (gC_P (by omega)) (q := vwCl[4]) rfl rfl dX0_find_30 (fun S1 R1 => ?_)
      obtain ⟨P1, hP1⟩ : ∃ P1, P1 = pwn P 9 (fun i => P (13 * q1 + i)) 13 := ⟨_, rfl⟩
      rw [← hP1] at R1
      have f1 : ∀ j, (j < 117 ∨ 130 ≤ j) → P1 j = P j := fun j hj => by rw [hP1]; exact pwn_out P 9 _ (by omega)
      have hv9 : zV ca P1 9 v := ⟨fun i hi => by rw [hP1, pwn_in P 9 _ hi]; exact hvv.1 i hi, hvv.2⟩
      refine z_aload_n X 0 rfl rfl dX0_find_33 ?_
      refine z_get X zinX0 2 (by omega) gC_D (ci := 2) rfl 0 (by decide) (ref := "TowerFields$Divisor") zw63 rfl rfl dX0_find_34 ?_
      refine z_aload_n X 0 rfl rfl dX0_find_37 ?_
      refine z_get X zinX0 2 (by omega) gC_D (ci := 2) rfl 0 (by decide) (ref := "TowerFields$Divisor") zw63 rfl rfl dX0_find_38 ?_
      refine z_callVi X zm_X2_head zw441 zw442 zw440 (zFit_of (by decide) (by decide)) [] (c_X2_head HU HA l R1 (q := 9) (by omega) hv9) rfl rfl (Nat.le_of_ble_eq_true rfl) (by omega) (gC_P (by omega)) (q := vwCl[4]) rfl rfl dX0_find_41 (fun z _ hz => ?_)
      subst hz
      refine z_callSNi X zm_X3_inverse zw279 (List.mem_of_getElem? (i := 6) rfl) (zFit_of (by decide) (by decide)) [.int (iZ (vz (mp_lc cu (mp_lc ca v))))] (c_X3_inverse l (gC ad cI cO S1) (mp_lc cu (mp_lc ca v))) rfl rfl (Nat.le_of_ble_eq_true rfl) dX0_find_44 (fun z _ hz => ?_)
      subst hz
      obtain ⟨y, hyd⟩ : ∃ y : FP, y = mf_inv (mp_lc cu (mp_lc ca v)) := ⟨_, rfl⟩
      rw [← hyd]
      refine z_callVv X zm_X2_scale zw448 zw449 zw447 (zFit_of (by decide) (by decide)) [.int (iZ (vz y))] (c_X2_scale HU l R1 (q := 9) (by omega) y) rfl rfl (Nat.le_of_ble_eq_true rfl) (by omega) (gC_P (by omega)) (q := vwCl[4]) rfl rfl dX0_find_47 (fun S2 R2 => ?_)
      obtain ⟨P2, hP2⟩ : ∃ P2, P2 = pwn P1 9 (fun i => mp_C cu y * P1 (13 * 9 + i)) 13 := ⟨_, rfl⟩
      rw [← hP2] at R2
      have f2 : ∀ j, (j < 117 ∨ 130 ≤ j) → P2 j = P1 j := fun j hj => by rw [hP2]; exact pwn_out P1 9 _ (by omega)
      have hvf2 : zV ca P2 9 (mp_C ca (mp_C cu y) * v) := by rw [hP2]; exact zV_scale HA hv9 _
      have hva2 : zV ca P2 q1 a := zV_eq hva (fun i hi => by rw [f2 _ (by omega), f1 _ (by omega)])
      have hvb2 : zV ca P2 q2 b := zV_eq hvb (fun i hi => by rw [f2 _ (by omega), f1 _ (by omega)])
      refine z_aload_n X 0 rfl rfl dX0_find_50 ?_
      refine z_aload_n X 1 rfl rfl dX0_find_51 ?_
      refine z_aload_n X 2 rfl rfl dX0_find_52 ?_
      refine z_callVi X zm_X0_divideBoth zw458 zp12 zw456 (zFit_of (by decide) (by decide)) [.ref (ad (q1 + 3)), .ref (ad (q2 + 3))] (c_X0_divideBoth HU HA l R2 hq1 hq2 hva2 hvb2 hvf2) rfl rfl (Nat.le_of_ble_eq_true rfl) (by omega) gC_D (q := vwCl[2]) rfl rfl dX0_find_53 (fun z S3 hu3 => ?_)
      obtain ⟨P3, R3, f3, hc3⟩ := hu3
      refine z_pop X rfl dX0_find_56 ?_
      refine E S3 ⟨P3, R3, fun j hj => by rw [f3 j (by omega) (by omega), f2 j (by omega), f1 j (by omega)], _, zV_eq hvf2 (fun i hi => f3 _ (by omega) (by omega)), ?_⟩ rfl dX0_find_57
      by_cases hvz : v = 0
      · exact Or.inl ⟨by first | exact hoz | exact hv0.symm.trans hvz, by first | exact hoz | exact hv0.symm.trans hvz, by rw [hvz]; grind⟩
      · obtain ⟨l1, l2, l3, l4, l5⟩ := zd_lclc HU HA hvz
        rw [← hyd] at l1 l3 l4 l5
        have hfn := mp_nz_mul hAd (mp_C_ne HA (mp_C_ne HU l1)) hvz
        rcases hc3 with ⟨-, -, x, y1, hx, hy1, ex, ey⟩ | ⟨-, hno⟩
        · refine Or.inr ⟨l3, x, y1, hx, hy1, ex, ey, fun d d1 d2 => ?_⟩
          have e9 : x = mp_C ca (mp_C cu (mp_lc cu (mp_lc ca v))) := mp_cancel hAd hfn (by rw [← ex, ← hv0]; grind)
          exact mp_U_of_D d1 (by rw [e9]; exact mp_CC_U mp_FP HU HA l2)
        · exact absurd trivial (fun _ => hno (mp_C ca (mp_C cu (mp_lc cu (mp_lc ca v)))) 0 hfn (by first | (rw [hoz]; grind) | (rw [← hv0]; grind)) (by first | (rw [hoz]; grind) | (rw [← hv0]; grind)))
    · refine z_aload_n X 2 rfl rfl dX0_find_25 ?_
      refine z_goto X (tgt := 30) dX0_find_26 (by decide) ?_
      obtain ⟨v, hv0, hvv⟩ : ∃ v, v = b ∧ zV ca P q2 v := ⟨_, rfl, hvb⟩
      have hoz : a = 0 := by first | exact ha2 (by omega) | exact absurd (ha2 (by omega)) (h31 (by omega)) | exact h32 (by omega)
      refine z_callVv X zm_X2_copyOf zw433 zw434 zw432 (zFit_of (by decide) (by decide)) [.ref (ad (q2 + 3))] (c_X2_copyOf HU l hR (q := 9) (q2 := q2) (by omega) (by omega) (by omega)) rfl rfl (Nat.le_of_ble_eq_true rfl) (by omega) (gC_P (by omega)) (q := vwCl[4]) rfl rfl dX0_find_30 (fun S1 R1 => ?_)
      obtain ⟨P1, hP1⟩ : ∃ P1, P1 = pwn P 9 (fun i => P (13 * q2 + i)) 13 := ⟨_, rfl⟩
      rw [← hP1] at R1
      have f1 : ∀ j, (j < 117 ∨ 130 ≤ j) → P1 j = P j := fun j hj => by rw [hP1]; exact pwn_out P 9 _ (by omega)
      have hv9 : zV ca P1 9 v := ⟨fun i hi => by rw [hP1, pwn_in P 9 _ hi]; exact hvv.1 i hi, hvv.2⟩
      refine z_aload_n X 0 rfl rfl dX0_find_33 ?_
      refine z_get X zinX0 2 (by omega) gC_D (ci := 2) rfl 0 (by decide) (ref := "TowerFields$Divisor") zw63 rfl rfl dX0_find_34 ?_
      refine z_aload_n X 0 rfl rfl dX0_find_37 ?_
      refine z_get X zinX0 2 (by omega) gC_D (ci := 2) rfl 0 (by decide) (ref := "TowerFields$Divisor") zw63 rfl rfl dX0_find_38 ?_
      refine z_callVi X zm_X2_head zw441 zw442 zw440 (zFit_of (by decide) (by decide)) [] (c_X2_head HU HA l R1 (q := 9) (by omega) hv9) rfl rfl (Nat.le_of_ble_eq_true rfl) (by omega) (gC_P (by omega)) (q := vwCl[4]) rfl rfl dX0_find_41 (fun z _ hz => ?_)
      subst hz
      refine z_callSNi X zm_X3_inverse zw279 (List.mem_of_getElem? (i := 6) rfl) (zFit_of (by decide) (by decide)) [.int (iZ (vz (mp_lc cu (mp_lc ca v))))] (c_X3_inverse l (gC ad cI cO S1) (mp_lc cu (mp_lc ca v))) rfl rfl (Nat.le_of_ble_eq_true rfl) dX0_find_44 (fun z _ hz => ?_)
      subst hz
      obtain ⟨y, hyd⟩ : ∃ y : FP, y = mf_inv (mp_lc cu (mp_lc ca v)) := ⟨_, rfl⟩
      rw [← hyd]
      refine z_callVv X zm_X2_scale zw448 zw449 zw447 (zFit_of (by decide) (by decide)) [.int (iZ (vz y))] (c_X2_scale HU l R1 (q := 9) (by omega) y) rfl rfl (Nat.le_of_ble_eq_true rfl) (by omega) (gC_P (by omega)) (q := vwCl[4]) rfl rfl dX0_find_47 (fun S2 R2 => ?_)
      obtain ⟨P2, hP2⟩ : ∃ P2, P2 = pwn P1 9 (fun i => mp_C cu y * P1 (13 * 9 + i)) 13 := ⟨_, rfl⟩
      rw [← hP2] at R2
      have f2 : ∀ j, (j < 117 ∨ 130 ≤ j) → P2 j = P1 j := fun j hj => by rw [hP2]; exact pwn_out P1 9 _ (by omega)
      have hvf2 : zV ca P2 9 (mp_C ca (mp_C cu y) * v) := by rw [hP2]; exact zV_scale HA hv9 _
      have hva2 : zV ca P2 q1 a := zV_eq hva (fun i hi => by rw [f2 _ (by omega), f1 _ (by omega)])
      have hvb2 : zV ca P2 q2 b := zV_eq hvb (fun i hi => by rw [f2 _ (by omega), f1 _ (by omega)])
      refine z_aload_n X 0 rfl rfl dX0_find_50 ?_
      refine z_aload_n X 1 rfl rfl dX0_find_51 ?_
      refine z_aload_n X 2 rfl rfl dX0_find_52 ?_
      refine z_callVi X zm_X0_divideBoth zw458 zp12 zw456 (zFit_of (by decide) (by decide)) [.ref (ad (q1 + 3)), .ref (ad (q2 + 3))] (c_X0_divideBoth HU HA l R2 hq1 hq2 hva2 hvb2 hvf2) rfl rfl (Nat.le_of_ble_eq_true rfl) (by omega) gC_D (q := vwCl[2]) rfl rfl dX0_find_53 (fun z S3 hu3 => ?_)
      obtain ⟨P3, R3, f3, hc3⟩ := hu3
      refine z_pop X rfl dX0_find_56 ?_
      refine E S3 ⟨P3, R3, fun j hj => by rw [f3 j (by omega) (by omega), f2 j (by omega), f1 j (by omega)], _, zV_eq hvf2 (fun i hi => f3 _ (by omega) (by omega)), ?_⟩ rfl dX0_find_57
      by_cases hvz : v = 0
      · exact Or.inl ⟨by first | exact hoz | exact hv0.symm.trans hvz, by first | exact hoz | exact hv0.symm.trans hvz, by rw [hvz]; grind⟩
      · obtain ⟨l1, l2, l3, l4, l5⟩ := zd_lclc HU HA hvz
        rw [← hyd] at l1 l3 l4 l5
        have hfn := mp_nz_mul hAd (mp_C_ne HA (mp_C_ne HU l1)) hvz
        rcases hc3 with ⟨-, -, x, y1, hx, hy1, ex, ey⟩ | ⟨-, hno⟩
        · refine Or.inr ⟨l3, x, y1, hx, hy1, ex, ey, fun d d1 d2 => ?_⟩
          have e9 : y1 = mp_C ca (mp_C cu (mp_lc cu (mp_lc ca v))) := mp_cancel hAd hfn (by rw [← ey, ← hv0]; grind)
          exact mp_U_of_D d2 (by rw [e9]; exact mp_CC_U mp_FP HU HA l2)
        · exact absurd trivial (fun _ => hno 0 (mp_C ca (mp_C cu (mp_lc cu (mp_lc ca v)))) hfn (by first | (rw [hoz]; grind) | (rw [← hv0]; grind)) (by first | (rw [hoz]; grind) | (rw [← hv0]; grind)))
  · refine z_aload_n X 2 rfl rfl dX0_find_7 ?_
    refine z_callVi X zm_X2_isZero zw419 zw420 zw431 (zFit_of (by decide) (by decide)) [] (c_X2_isZero HU HA l hR (q := q2) (by omega) hvb) rfl rfl (Nat.le_of_ble_eq_true rfl) (by omega) (gC_P (by omega)) (q := vwCl[4]) rfl rfl dX0_find_8 (fun z _ hz => ?_)
    have eb : b = 0 ∨ b ≠ 0 := Classical.em _
    have hb1 : z = 0 → b ≠ 0 := fun h0 q => by rw [if_pos q] at hz; omega
    have hb2 : ¬ z = 0 → b = 0 := fun h0 => Classical.byContradiction (fun q => by rw [if_neg q] at hz; omega)
    have hz01 : z = 0 ∨ z = 1 := by rw [hz]; split <;> omega
    refine z_if_eq X (tgt := 58) (by omega) dX0_find_11 (by decide) (fun hb11 => ?_) (fun hb11 => ?_)
    · refine z_aload_n X 0 rfl rfl dX0_find_58 ?_
      refine z_aload_n X 1 rfl rfl dX0_find_59 ?_
      refine z_aload_n X 2 rfl rfl dX0_find_60 ?_
      refine z_callVv X zm_X0_findContents zw484 zp14 zw482 (zFit_of (by decide) (by decide)) [.ref (ad (q1 + 3)), .ref (ad (q2 + 3))] (c_X0_findContents HU HA l hR hq1' hq2' hva hvb (ha1 (by omega)) (hb1 (by omega))) rfl rfl (Nat.le_of_ble_eq_true rfl) (by omega) gC_D (q := vwCl[2]) rfl rfl dX0_find_61 (fun S1 hu1 => ?_)
      have ha0 := ha1 (by omega)
      have hb0 := hb1 (by omega)
      obtain ⟨P1, c1, c2, cc, ld, a1, b1, R1, hc1, hc2, hcm, ea, eb, hl, k185, k186, k184, k188, f1⟩ := hu1
      have hva1 : zV ca P1 q1 a := zV_eq hva (fun i hi => f1 _ (by omega))
      have hvb1 : zV ca P1 q2 b := zV_eq hvb (fun i hi => f1 _ (by omega))
      have hc10 := mq_lc_ne mp_FP HU hc1.1
      have hc20 := mq_lc_ne mp_FP HU hc2.1
      have ha10 : a1 ≠ 0 := fun z => ha0 (by rw [ea, z]; grind)
      have hb10 : b1 ≠ 0 := fun z => hb0 (by rw [eb, z]; grind)
      have hx1 := mp_xz_mul mp_FP HU HA (mp_C_ne HA hc10) ha10
      have hx2 := mp_xz_mul mp_FP HU HA (mp_C_ne HA hc20) hb10
      rw [← ea, mp_xz_C HU HA] at hx1
      rw [← eb, mp_xz_C HU HA] at hx2
      have hxp1 := mp_xz_pos HU HA ha10
      have hxp2 := mp_xz_pos HU HA hb10
      have hcp1 := mp_sz_pos HU hc10
      have hcp2 := mp_sz_pos HU hc20
      have hla10 := mp_lc_ne HA ha10
      have hlb10 := mp_lc_ne HA hb10
      have hld0 : ld ≠ 0 := fun z => hla10 (by obtain ⟨y, hy⟩ := hl.1.1; rw [hy, z]; grind)
      have hlds := mp_sz_pos HU hld0
      have hldu : mp_sz cu ld ≤ mp_xz cu ca a1 := Nat.le_trans (mp_D_sz HU hFN hl.1.1 hla10) (mp_xz_row HU HA a1 _)
      have hldb : mp_sz cu ld ≤ mp_xz cu ca b1 := Nat.le_trans (mp_D_sz HU hFN hl.1.2.1 hlb10) (mp_xz_row HU HA b1 _)
      have hlcc0 : cc ≠ 0 := fun z => hc10 (by obtain ⟨y, hy⟩ := hcm.1.1; rw [hy, z]; grind)
      have hlcc : mp_lc cu cc = 1 := hcm.2.resolve_left hlcc0
      have hcca : mp_D (mp_C ca cc) a := by
        obtain ⟨y, hy⟩ := hcm.1.1
        exact ⟨mp_C ca y * a1, by rw [ea, hy, mp_C_mulC HA]; grind⟩
      have hccb : mp_D (mp_C ca cc) b := by
        obtain ⟨y, hy⟩ := hcm.1.2.1
        exact ⟨mp_C ca y * b1, by rw [eb, hy, mp_C_mulC HA]; grind⟩
      have hccg : ∀ d, mp_D (mp_C ca d) a → mp_D (mp_C ca d) b → mp_D d cc := fun d d1 d2 => hcm.1.2.2 d (hc1.2.2 d d1) (hc2.2.2 d d2)
      obtain ⟨g, h, B, hga, hgb, hgg, hg0, hhg, hh0, hxh1, hxh2, himg, hB0, hBs, hBw, hhk⟩ := mq_setup mp_FP HU HA ha0 hb0 hc1 hc2 hcm ea eb hl (m := 12) (n := 12) (D := 51) (by omega) (by omega) (by omega) (by omega)
      obtain ⟨G, hGd⟩ : ∃ G, G = mp_sz ca g := ⟨_, rfl⟩
      have hGp := mp_sz_pos HA hg0
      have hGa := mp_D_sz HA hUd hga ha0
      have hGb := mp_D_sz HA hUd hgb hb0
      rw [← hGd] at hGp hGa hGb hhg
      have hcom : ∀ d, mp_D d a → mp_D d b → mp_sz ca d ≤ G := fun d d1 d2 => by rw [hGd]; exact mp_D_sz HA hUd (hgg d d1 d2) hg0
      have hlcn : ∀ w, mp_e cu w (mp_lc ca a) ≠ 0 → mp_e cu w ld ≠ 0 := fun w hw z => hw (by
        obtain ⟨y, hy⟩ := hl.1.1
        rw [ea, (mp_lc_mul HA hUd (mp_C_ne HA hc10) ha10).2, hy, mp_e_mul HU hFN, mp_e_mul HU hFN, z]
        grind)
      refine z_aload_n X 1 rfl rfl dX0_find_64 ?_
      refine z_callVi X zm_X2_powerX zw467 zw468 zw466 (zFit_of (by decide) (by decide)) [] (c_X2_powerX HU HA l R1 (q := q1) (by omega) hva1) rfl rfl (Nat.le_of_ble_eq_true rfl) (by omega) (gC_P (by omega)) (q := vwCl[4]) rfl rfl dX0_find_65 (fun z _ hz => ?_)
      subst hz
      refine z_aload_n X 0 rfl rfl dX0_find_68 ?_
      refine z_get X zinX0 2 (by omega) gC_D (ci := 2) rfl 6 (by decide) (ref := "TowerFields$Divisor") zw72 rfl rfl dX0_find_69 ?_
      refine zl_degN X (by omega) ((mp_sz cu c1 : Int) - 1) (by have h := R1.2.2.2.1 185 (by omega); rw [k185] at h; exact h) (List.mem_of_getElem? (i := 1) rfl) dX0_find_72 ?_
      refine z_isub X dX0_find_75 ?_
      refine z_aload_n X 2 rfl rfl dX0_find_76 ?_
      refine z_callVi X zm_X2_powerX zw467 zw468 zw466 (zFit_of (by decide) (by decide)) [] (c_X2_powerX HU HA l R1 (q := q2) (by omega) hvb1) rfl rfl (Nat.le_of_ble_eq_true rfl) (by omega) (gC_P (by omega)) (q := vwCl[4]) rfl rfl dX0_find_77 (fun z _ hz => ?_)
      subst hz
      refine z_aload_n X 0 rfl rfl dX0_find_80 ?_
      refine z_get X zinX0 2 (by omega) gC_D (ci := 2) rfl 7 (by decide) (ref := "TowerFields$Divisor") zw73 rfl rfl dX0_find_81 ?_
      refine zl_degN X (by omega) ((mp_sz cu c2 : Int) - 1) (by have h := R1.2.2.2.1 186 (by omega); rw [k186] at h; exact h) (List.mem_of_getElem? (i := 1) rfl) dX0_find_84 ?_
      refine z_isub X dX0_find_87 ?_
      refine z_min X (by omega) (by omega) zw505 (Nat.le_of_ble_eq_true rfl) (Nat.le_of_ble_eq_true rfl) (Nat.le_refl _) (Nat.le_refl _) dX0_find_88 ?_
      obtain ⟨rch, hrch⟩ : ∃ h9 : Int, h9 = if ((mp_xz cu ca b : Int) - 1) - ((mp_sz cu c2 : Int) - 1) < ((mp_xz cu ca a : Int) - 1) - ((mp_sz cu c1 : Int) - 1) then ((mp_xz cu ca b : Int) - 1) - ((mp_sz cu c2 : Int) - 1) else ((mp_xz cu ca a : Int) - 1) - ((mp_sz cu c1 : Int) - 1) := ⟨_, rfl⟩
      rw [← hrch]
      have crch : (((mp_xz cu ca b : Int) - 1) - ((mp_sz cu c2 : Int) - 1) < ((mp_xz cu ca a : Int) - 1) - ((mp_sz cu c1 : Int) - 1) ∧ rch = ((mp_xz cu ca b : Int) - 1) - ((mp_sz cu c2 : Int) - 1)) ∨ (¬ ((mp_xz cu ca b : Int) - 1) - ((mp_sz cu c2 : Int) - 1) < ((mp_xz cu ca a : Int) - 1) - ((mp_sz cu c1 : Int) - 1) ∧ rch = ((mp_xz cu ca a : Int) - 1) - ((mp_sz cu c1 : Int) - 1)) := by
        by_cases hc : ((mp_xz cu ca b : Int) - 1) - ((mp_sz cu c2 : Int) - 1) < ((mp_xz cu ca a : Int) - 1) - ((mp_sz cu c1 : Int) - 1)
        · rw [if_pos hc] at hrch; exact Or.inl ⟨hc, hrch⟩
        · rw [if_neg hc] at hrch; exact Or.inr ⟨hc, hrch⟩
      refine z_istore_n X [(3, .int (iZ (rch))), (0, .ref (ad 2)), (1, .ref (ad (q1 + 3))), (2, .ref (ad (q2 + 3)))] rfl rfl (by decide) dX0_find_91 ?_
      refine z_iload_n X 0 rfl rfl dX0_find_92 ?_
      refine z_aload_n X 1 rfl rfl dX0_find_93 ?_
      refine z_get X zinX0 2 (by omega) gC_D (ci := 2) rfl 9 (by decide) (ref := "TowerFields$Divisor") zw75 rfl rfl dX0_find_94 ?_
      refine zl_degN X (by omega) ((mp_sz cu ld : Int) - 1) (by have h := R1.2.2.2.1 188 (by omega); rw [k188] at h; exact h) (List.mem_of_getElem? (i := 1) rfl) dX0_find_97 ?_
      refine z_iadd X dX0_find_100 ?_
      refine z_iconst X (n := 1) dX0_find_101 ?_
      refine z_iadd X dX0_find_102 ?_
      obtain ⟨nd, hnd⟩ : ∃ q : Int, q = (rch + ((mp_sz cu ld : Int) - 1)) + 1 := ⟨_, rfl⟩
      rw [← hnd]
      refine z_istore X [(4, .int (iZ (nd))), (3, .int (iZ (rch))), (0, .ref (ad 2)), (1, .ref (ad (q1 + 3))), (2, .ref (ad (q2 + 3)))] rfl (by decide) dX0_find_103 ?_
      refine z_aload_n X 3 rfl rfl dX0_find_105 ?_
      refine z_callVi X zm_X2_powerT zw414 zw415 zw465 (zFit_of (by decide) (by decide)) [] (c_X2_powerT HU HA l R1 (q := q1) (by omega) hva1) rfl rfl (Nat.le_of_ble_eq_true rfl) (by omega) (gC_P (by omega)) (q := vwCl[4]) rfl rfl dX0_find_106 (fun z _ hz => ?_)
      subst hz
      refine z_aload_n X 4 rfl rfl dX0_find_109 ?_
      refine z_callVi X zm_X2_powerT zw414 zw415 zw465 (zFit_of (by decide) (by decide)) [] (c_X2_powerT HU HA l R1 (q := q2) (by omega) hvb1) rfl rfl (Nat.le_of_ble_eq_true rfl) (by omega) (gC_P (by omega)) (q := vwCl[4]) rfl rfl dX0_find_110 (fun z _ hz => ?_)
      subst hz
      refine z_min X (by omega) (by omega) zw505 (Nat.le_of_ble_eq_true rfl) (Nat.le_of_ble_eq_true rfl) (Nat.le_refl _) (Nat.le_refl _) dX0_find_113 ?_
      obtain ⟨dg, hdg⟩ : ∃ h9 : Int, h9 = if (mp_sz ca b : Int) - 1 < (mp_sz ca a : Int) - 1 then (mp_sz ca b : Int) - 1 else (mp_sz ca a : Int) - 1 := ⟨_, rfl⟩
      rw [← hdg]
      have cdg : ((mp_sz ca b : Int) - 1 < (mp_sz ca a : Int) - 1 ∧ dg = (mp_sz ca b : Int) - 1) ∨ (¬ (mp_sz ca b : Int) - 1 < (mp_sz ca a : Int) - 1 ∧ dg = (mp_sz ca a : Int) - 1) := by
        by_cases hc : (mp_sz ca b : Int) - 1 < (mp_sz ca a : Int) - 1
        · rw [if_pos hc] at hdg; exact Or.inl ⟨hc, hdg⟩
        · rw [if_neg hc] at hdg; exact Or.inr ⟨hc, hdg⟩
      refine z_istore X [(5, .int (iZ (dg))), (4, .int (iZ (nd))), (3, .int (iZ (rch))), (0, .ref (ad 2)), (1, .ref (ad (q1 + 3))), (2, .ref (ad (q2 + 3)))] rfl (by decide) dX0_find_116 ?_
      refine z_iconst X (n := 0) dX0_find_118 ?_
      refine z_istore X [(6, .int (iZ (0))), (5, .int (iZ (dg))), (4, .int (iZ (nd))), (3, .int (iZ (rch))), (0, .ref (ad 2)), (1, .ref (ad (q1 + 3))), (2, .ref (ad (q2 + 3)))] rfl (by decide) dX0_find_119 ?_
      refine z_iconst X (n := 0) dX0_find_121 ?_
      refine z_istore X [(7, .int (iZ (0))), (6, .int (iZ (0))), (5, .int (iZ (dg))), (4, .int (iZ (nd))), (3, .int (iZ (rch))), (0, .ref (ad 2)), (1, .ref (ad (q1 + 3))), (2, .ref (ad (q2 + 3)))] rfl (by decide) dX0_find_122 ?_
      have fin : ∀ (P3 : Nat → U) (S3 : zS) (lv : List (Nat × Value)) (ks : List Nat), zR cu P3 T S3 → (∀ j, (j < 117 ∨ j = 182 ∨ j = 183) → P3 j = P j) → P3 184 = cc → G ≤ 1 → lv_pick lv ks = [(0, .ref (ad 2)), (1, .ref (ad (q1 + 3))), (2, .ref (ad (q2 + 3)))] → Z p l e (zRm 5) s m args below meth c 9 D 419 ad A 0 0 Q 280 lv [] (gC ad cI cO S3) := by
        intro P3 S3 lv ks g1 g2 g3 g4 hlv
        refine z_sub ks hlv ?_
        refine z_aload_n X 0 rfl rfl dX0_find_280 ?_
        refine z_get X zinX0 2 (by omega) gC_D (ci := 2) rfl 0 (by decide) (ref := "TowerFields$Divisor") zw63 rfl rfl dX0_find_281 ?_
        refine z_callVv X zm_X2_clear zw286 zw287 zw464 (zFit_of (by decide) (by decide)) [] (c_X2_clear HU l g1 (q := 9) (by omega)) rfl rfl (Nat.le_of_ble_eq_true rfl) (by omega) (gC_P (by omega)) (q := vwCl[4]) rfl rfl dX0_find_284 (fun S4 R4 => ?_)
        obtain ⟨P4, hP4⟩ : ∃ P4, P4 = pwn P3 9 (fun _ => (0 : U)) 13 := ⟨_, rfl⟩
        rw [← hP4] at R4
        have f4 : ∀ j, (j < 117 ∨ 130 ≤ j) → P4 j = P3 j := fun j hj => by rw [hP4]; exact pwn_out P3 9 _ (by omega)
        have hv4 : zV ca P4 9 (0 : V) := ⟨fun i hi => by rw [hP4, pwn_in P3 9 _ hi, mp_zero HA], by rw [(mp_sz_0 HA).mpr rfl]; omega⟩
        refine z_aload_n X 0 rfl rfl dX0_find_287 ?_
        refine z_get X zinX0 2 (by omega) gC_D (ci := 2) rfl 0 (by decide) (ref := "TowerFields$Divisor") zw63 rfl rfl dX0_find_288 ?_
        refine z_iconst X (n := 0) dX0_find_291 ?_
        refine z_callVr X zm_X2_row zw113 zw114 zw473 (zFit_of (by decide) (by decide)) [.int (iZ (0))] (c_X2_row l S4 (q := 9) (by omega) (i := 0) (by omega)) rfl rfl (Nat.le_of_ble_eq_true rfl) (by omega) (gC_P (by omega)) (q := vwCl[4]) rfl rfl dX0_find_292 (fun j _ hz => ?_)
        have hj := zr_row hz (by omega) (by omega)
        subst hj
        refine z_aload_n X 0 rfl rfl dX0_find_295 ?_
        refine z_get X zinX0 2 (by omega) gC_D (ci := 2) rfl 5 (by decide) (ref := "TowerFields$Divisor") zw71 rfl rfl dX0_find_296 ?_
        refine z_callVv X zm_X1_copyOf zw437 zw438 zw480 (zFit_of (by decide) (by decide)) [.ref (ad (184 + 31))] (c_X1_copyOf HU l R4 (k := 13 * 9 + (0 : Int).toNat) (k2 := 184) (by omega) (by omega) (by omega)) rfl rfl (Nat.le_of_ble_eq_true rfl) (by omega) (gC_L (by omega)) (q := vwCl[3]) rfl rfl dX0_find_299 (fun S5 R5 => ?_)
        obtain ⟨P5, hP5⟩ : ∃ P5, P5 = va_up P4 (13 * 9 + (0 : Int).toNat) (P4 184) := ⟨_, rfl⟩
        rw [← hP5] at R5
        have f5 : ∀ j, (j < 117 ∨ 130 ≤ j) → P5 j = P3 j := fun j hj => by rw [hP5, va_up_ne _ _ (by omega), f4 j hj]
        have hvf5 : zV ca P5 9 (mp_C ca cc) := by
          have h1 := zV_put HA hv4 (n := 0) (by omega) cc (x := P4 184) (by rw [f4 _ (by omega), g3, mp_zero HA]; grind)
          rw [show (0 : V) + mp_m ca cc 0 = mp_C ca cc by rw [mp_C]; grind] at h1
          rw [hP5]
          exact h1
        have hva5 : zV ca P5 q1 a := zV_eq hva (fun i hi => by rw [f5 _ (by omega), g2 _ (by omega)])
        have hvb5 : zV ca P5 q2 b := zV_eq hvb (fun i hi => by rw [f5 _ (by omega), g2 _ (by omega)])
        refine z_aload_n X 0 rfl rfl dX0_find_302 ?_
        refine z_aload_n X 1 rfl rfl dX0_find_303 ?_
        refine z_aload_n X 2 rfl rfl dX0_find_304 ?_
        refine z_callVi X zm_X0_divideBoth zw458 zp12 zw456 (zFit_of (by decide) (by decide)) [.ref (ad (q1 + 3)), .ref (ad (q2 + 3))] (c_X0_divideBoth HU HA l R5 hq1 hq2 hva5 hvb5 hvf5) rfl rfl (Nat.le_of_ble_eq_true rfl) (by omega) gC_D (q := vwCl[2]) rfl rfl dX0_find_305 (fun z S6 hu6 => ?_)
        obtain ⟨P6, R6, f6, hc6⟩ := hu6
        refine z_pop X rfl dX0_find_308 ?_
        refine E S6 ⟨P6, R6, fun j hj => by rw [f6 j (by omega) (by omega), f5 j (by omega), g2 j hj], _, zV_eq hvf5 (fun i hi => f6 _ (by omega) (by omega)), ?_⟩ rfl dX0_find_309
        have hCc := mp_C_ne HA hlcc0
        rcases hc6 with ⟨-, -, x, y, hx, hy, ex, ey⟩ | ⟨-, hno⟩
        · refine Or.inr ⟨?_, x, y, hx, hy, ex, ey, ?_⟩
          · rw [show mp_lc ca (mp_C ca cc) = cc by rw [mp_lc, mp_sz_CE HA hlcc0, mp_C_cf HA]; rfl]
            exact hlcc
          · exact mq_found mp_FP HU HA ha0 hlcc0 hccg (mp_D_rf _) ex ey (fun d d1 d2 => by rw [mp_sz_CE HA hlcc0]; have := hcom d d1 d2; omega)
        · obtain ⟨x, ex⟩ := hcca
          obtain ⟨y, ey⟩ := hccb
          exact absurd trivial (fun _ => hno x y hCc ex ey)
      have hnd1 : 1 ≤ nd := by omega
      have hnd51 : nd ≤ 51 := by omega
      have hxnd : (mp_xz cu ca h : Int) ≤ nd := by omega
      have hct : ∀ n, n = 32003 → ¬ mp_ct (fun i => mp_e cu (mf_n i) B ≠ 0) n ≤ 60 := fun n hn hle => by
        have h1 := mp_zeros HU (n := 32003) (Nat.le_refl _) 1377 B hB0 hBs
        have h2 : mp_ct (fun i => mp_e cu (mf_n i) B = 0) 32003 + mp_ct (fun i => mp_e cu (mf_n i) B ≠ 0) 32003 = 32003 := mp_ct_not (fun i => mp_e cu (mf_n i) B = 0) 32003
        rw [hn] at hle
        omega
      have loop : ∀ (n : Nat) (pt np dg : Int) (P3 : Nat → U) (S3 : zS) (lv : List (Nat × Value)) (ks : List Nat), pt + n = 32003 → 0 ≤ pt → 0 ≤ np → (np = 0 ∨ np < nd) → (G : Int) ≤ dg + 1 → dg ≤ 12 → zR cu P3 T S3 → (∀ j, (j < 117 ∨ j = 182 ∨ j = 183) → P3 j = P j) → P3 184 = cc → P3 188 = ld → ((mp_ct (fun i => mp_e cu (mf_n i) B ≠ 0) pt.toNat : Int) ≤ if (G : Int) = dg + 1 then np else 0) → (0 < np → ∃ f, zV ca P3 12 f ∧ zJ cu ca h G dg np pt f (P3 189)) → lv_pick lv ks = [(7, .int (iZ (pt))), (6, .int (iZ (np))), (5, .int (iZ (dg))), (4, .int (iZ (nd))), (3, .int (iZ (rch))), (0, .ref (ad 2)), (1, .ref (ad (q1 + 3))), (2, .ref (ad (q2 + 3)))] → Z p l e (zRm 5) s m args below meth c 9 D 419 ad A 0 0 Q 124 lv [] (gC ad cI cO S3) := by
        intro n
        induction n with
        | zero =>
          intro pt np dg P3 S3 lv ks h1 h2 h3 h4 h5 h6 h7 h8 h9 h10 h11 h12 hlv
          refine z_sub ks hlv ?_
          exfalso
          exact hct pt.toNat (by omega) (by split at h11 <;> omega)
        | succ n ih =>
          intro pt np dg P3 S3 lv ks h1 h2 h3 h4 h5 h6 h7 h8 h9 h10 h11 h12 hlv
          refine z_sub ks hlv ?_
          have hva3 : zV ca P3 q1 a := zV_eq hva (fun i hi => h8 _ (by omega))
          have hvb3 : zV ca P3 q2 b := zV_eq hvb (fun i hi => h8 _ (by omega))
          refine z_iload X 0 rfl dX0_find_124 ?_
          refine z_sipush X (n := 32003) (by decide) dX0_find_126 ?_
          refine z_icmp_ge X (tgt := 280) (by omega) (by omega) dX0_find_129 (by decide) (fun hb129 => absurd hb129 (by omega)) (fun hb129 => ?_)
          refine z_iload X 2 rfl dX0_find_132 ?_
          refine z_if_le X (tgt := 280) (by omega) dX0_find_134 (by decide) (fun hb134 => ?_) (fun hb134 => ?_)
          · exact fin P3 S3 _ [5, 6, 7] h7 (h8) h9 (by omega) rfl
          · refine z_aload_n X 5 rfl rfl dX0_find_137 ?_
            refine z_aload_n X 6 rfl rfl dX0_find_138 ?_
            refine z_aload_n X 7 rfl rfl dX0_find_139 ?_
            refine z_iload X 0 rfl dX0_find_140 ?_
            refine z_eqi (b := vz (mf_n pt.toNat)) (vz_ofn h2 (by omega)).symm ?_
            refine z_callVi X zm_X0_findImage zw510 zp18 zw508 (zFit_of (by decide) (by decide)) [.ref (ad (q1 + 3)), .ref (ad (q2 + 3)), .int (iZ (vz (mf_n pt.toNat)))] (c_X0_findImage HU HA l h7 (by omega) (by omega) hva3 hvb3 ha0 hb0 (mf_n pt.toNat)) rfl rfl (Nat.le_of_ble_eq_true rfl) (by omega) gC_D (q := vwCl[2]) rfl rfl dX0_find_142 (fun z S4 hu4 => ?_)
            obtain ⟨P4, R4, f4, hc4⟩ := hu4
            obtain ⟨wv, hwv⟩ : ∃ w : FP, w = mf_n pt.toNat := ⟨_, rfl⟩
            rw [← hwv] at hc4
            have f4' : ∀ j, (j < 117 ∨ j = 182 ∨ j = 183) → P4 j = P j := fun j hj => by rw [f4 j (by omega) (by omega) (by omega), h8 j hj]
            have k1844 : P4 184 = cc := by rw [f4 _ (by omega) (by omega) (by omega), h9]
            have k1884 : P4 188 = ld := by rw [f4 _ (by omega) (by omega) (by omega), h10]
            have hcy : ∀ (G2 : Int), mp_e cu wv B = 0 → (mp_ct (fun i => mp_e cu (mf_n i) B ≠ 0) (pt + 1).toNat : Int) ≤ mp_ct (fun i => mp_e cu (mf_n i) B ≠ 0) pt.toNat := fun _ hb => by
              rw [show (pt + 1).toNat = pt.toNat + 1 by omega, mp_ct_n (by rw [← hwv]; exact fun q => q hb)]
              omega
            have hcy2 : (mp_ct (fun i => mp_e cu (mf_n i) B ≠ 0) (pt + 1).toNat : Int) ≤ mp_ct (fun i => mp_e cu (mf_n i) B ≠ 0) pt.toNat + 1 := by
              rw [show (pt + 1).toNat = pt.toNat + 1 by omega]
              by_cases hb : mp_e cu (mf_n pt.toNat) B ≠ 0
              · rw [mp_ct_y hb]; omega
              · rw [mp_ct_n hb]; omega
            have hJ4 : 0 < np → ∃ f, zV ca P4 12 f ∧ zJ cu ca h G dg np (pt + 1) f (P4 189) := fun hnp => by
              obtain ⟨f, hf, j1, j2, j3, j4, j5, j6⟩ := h12 hnp
              refine ⟨f, zV_eq hf (fun i hi => f4 _ (by omega) (by omega) (by omega)), ?_⟩
              rw [f4 189 (by omega) (by omega) (by omega)]
              exact ⟨j1, j2, j3, fun i i1 i2 => j4 i (by omega) i2, j5, j6⟩
            have hz01 : z = 0 ∨ z = 1 := by rcases hc4 with ⟨h, -⟩ | ⟨h, -⟩ <;> omega
            refine z_if_eq X (tgt := 274) (by omega) dX0_find_145 (by decide) (fun hb145 => ?_) (fun hb145 => ?_)
            · have hbz : mp_e cu wv B = 0 := Classical.byContradiction (fun q => (hc4.resolve_left (fun q => by have := q.1; omega)).2 ⟨(hBw wv q).1, (hBw wv q).2.1⟩)
              have := hcy 0 hbz
              refine z_iinc X [(7, .int (iZ (pt + 1))), (6, .int (iZ (np))), (5, .int (iZ (dg))), (4, .int (iZ (nd))), (3, .int (iZ (rch))), (0, .ref (ad 2)), (1, .ref (ad (q1 + 3))), (2, .ref (ad (q2 + 3)))] 0 rfl rfl (by decide) dX0_find_274 ?_
              refine z_goto X (tgt := 124) dX0_find_277 (by decide) ?_
              exact ih (pt + 1) np dg P4 S4 _ [0, 1, 2, 3, 4, 5, 6, 7] (by omega) (by omega) h3 h4 h5 h6 R4 f4' k1844 k1884 (by split at h11 <;> split <;> omega) hJ4 rfl
            · obtain ⟨-, hwa, hwb, hmk⟩ := hc4.resolve_right (fun q => by have := q.1; omega)
              obtain ⟨k, hkd⟩ : ∃ k, k = P4 190 := ⟨_, rfl⟩
              rw [← hkd] at hmk
              have hGk : G ≤ mp_sz cu k := by rw [hGd]; exact mq_below mp_FP HU HA ha0 hmk hwa g hga hgb
              have hsk4 := R4.2.2.2.2.1 190 (by omega)
              rw [← hkd] at hsk4
              have hbad : mp_sz cu k ≠ G → mp_e cu wv B = 0 := fun hne => Classical.byContradiction (fun q => hne (by rw [hGd]; exact (hBw wv q).2.2 k hmk))
              have hlk : mp_lc cu k = 1 := hmk.2.resolve_left (fun z => by rw [(mp_sz_0 HU).mpr z] at hGk; omega)
              refine z_aload_n X 5 rfl rfl dX0_find_148 ?_
              refine z_get X zinX0 2 (by omega) gC_D (ci := 2) rfl 11 (by decide) (ref := "TowerFields$Divisor") zw77 rfl rfl dX0_find_149 ?_
              refine zl_degN X (by omega) ((mp_sz cu k : Int) - 1) (by have h := R4.2.2.2.1 190 (by omega); rw [← hkd] at h; exact h) (List.mem_of_getElem? (i := 1) rfl) dX0_find_152 ?_
              refine z_iload X 2 rfl dX0_find_155 ?_
              refine z_icmp_le X (tgt := 163) (by omega) (by omega) dX0_find_157 (by decide) (fun hb157 => ?_) (fun hb157 => ?_)
              · refine z_aload_n X 5 rfl rfl dX0_find_163 ?_
                refine z_get X zinX0 2 (by omega) gC_D (ci := 2) rfl 11 (by decide) (ref := "TowerFields$Divisor") zw77 rfl rfl dX0_find_164 ?_
                refine zl_degN X (by omega) ((mp_sz cu k : Int) - 1) (by have h := R4.2.2.2.1 190 (by omega); rw [← hkd] at h; exact h) (List.mem_of_getElem? (i := 1) rfl) dX0_find_167 ?_
                refine z_if_ne X (tgt := 176) (by omega) dX0_find_170 (by decide) (fun hb170 => ?_) (fun hb170 => ?_)
                · have tail : ∀ (np2 : Int) (P5 : Nat → U) (S5 : zS) (lv : List (Nat × Value)) (ks : List Nat), 0 ≤ np2 → (np2 = 0 ∨ np2 < nd) → zR cu P5 T S5 → (∀ j, (j < 117 ∨ j = 182 ∨ j = 183) → P5 j = P j) → P5 184 = cc → P5 188 = ld → P5 190 = k → ((G : Int) = (mp_sz cu k : Int) - 1 + 1 → (mp_ct (fun i => mp_e cu (mf_n i) B ≠ 0) pt.toNat : Int) ≤ np2) → ((G : Int) ≠ (mp_sz cu k : Int) - 1 + 1 → (mp_ct (fun i => mp_e cu (mf_n i) B ≠ 0) pt.toNat : Int) ≤ 0) → (∃ f, zV ca P5 12 f ∧ zJ cu ca h G ((mp_sz cu k : Int) - 1) np2 pt f (P5 189)) → lv_pick lv ks = [(7, .int (iZ (pt))), (6, .int (iZ (np2))), (5, .int (iZ ((mp_sz cu k : Int) - 1))), (4, .int (iZ (nd))), (3, .int (iZ (rch))), (0, .ref (ad 2)), (1, .ref (ad (q1 + 3))), (2, .ref (ad (q2 + 3)))] → Z p l e (zRm 5) s m args below meth c 9 D 419 ad A 0 0 Q 228 lv [] (gC ad cI cO S5) := by
                    intro np2 P5 S5 lv ks t1 t2 R5 f5' k1845 k1885 k1905 hct1 hct0 hJx hlv
                    obtain ⟨f, hf, hJ⟩ := hJx
                    obtain ⟨dg2, hdg2⟩ : ∃ d : Int, d = (mp_sz cu k : Int) - 1 := ⟨_, rfl⟩
                    rw [← hdg2] at hct1 hct0 hJ hlv
                    refine z_sub ks hlv ?_
                    refine z_aload_n X 5 rfl rfl dX0_find_228 ?_
                    refine z_iload X 0 rfl dX0_find_229 ?_
                    refine z_eqi (b := vz (mf_n pt.toNat)) (vz_ofn h2 (by omega)).symm ?_
                    refine z_callVi X zm_X0_takeIn zw522 zp19 zw520 (zFit_of (by decide) (by decide)) [.int (iZ (vz (mf_n pt.toNat)))] (c_X0_takeIn HU HA l R5 hf (by rw [k1905]; omega) (by have := hJ.2.2.1; omega) (mf_n pt.toNat)) rfl rfl (Nat.le_of_ble_eq_true rfl) (by omega) gC_D (q := vwCl[2]) rfl rfl dX0_find_231 (fun z S6 hu6 => ?_)
                    obtain ⟨hz601, P6, f9, R6, g6, hf9, k1896, hrows⟩ := hu6
                    rw [k1905, k1885] at hrows
                    have hJ9 : zJ cu ca h G dg2 (np2 + 1) (pt + 1) f9 (P6 189) := by
                      rw [k1896]
                      refine zJ_step HU HA hJ (by omega) h2 (by omega) t1 (k := k) (ld := ld) (by omega) hlk (by rw [← hwv]; exact hlcn wv hwa) hhg (fun hG1 => by rw [← hwv]; exact himg wv k hwa hmk (by omega)) hrows
                    have f6' : ∀ j, (j < 117 ∨ j = 182 ∨ j = 183) → P6 j = P j := fun j hj => by rw [g6 j (by omega) (by omega), f5' j hj]
                    have k1846 : P6 184 = cc := by rw [g6 _ (by omega) (by omega), k1845]
                    have k1886 : P6 188 = ld := by rw [g6 _ (by omega) (by omega), k1885]
                    have hva6 : zV ca P6 q1 a := zV_eq hva (fun i hi => f6' _ (by omega))
                    have hvb6 : zV ca P6 q2 b := zV_eq hvb (fun i hi => f6' _ (by omega))
                    obtain ⟨hs9, hf90⟩ := zJ_sz HU HA hJ9 (by omega) (by omega)
                    refine z_istore X [(8, .int (iZ (z))), (7, .int (iZ (pt))), (6, .int (iZ (np2))), (5, .int (iZ (dg2))), (4, .int (iZ (nd))), (3, .int (iZ (rch))), (0, .ref (ad 2)), (1, .ref (ad (q1 + 3))), (2, .ref (ad (q2 + 3)))] rfl (by decide) dX0_find_234 ?_
                    refine z_iinc X [(6, .int (iZ (np2 + 1))), (8, .int (iZ (z))), (7, .int (iZ (pt))), (5, .int (iZ (dg2))), (4, .int (iZ (nd))), (3, .int (iZ (rch))), (0, .ref (ad 2)), (1, .ref (ad (q1 + 3))), (2, .ref (ad (q2 + 3)))] 2 rfl rfl (by decide) dX0_find_236 ?_
                    refine z_iload X 1 rfl dX0_find_239 ?_
                    refine z_if_ne X (tgt := 251) (by omega) dX0_find_241 (by decide) (fun hb241 => ?_) (fun hb241 => ?_)
                    · refine z_aload_n X 6 rfl rfl dX0_find_251 ?_
                      refine z_aload_n X 7 rfl rfl dX0_find_252 ?_
                      refine z_aload_n X 8 rfl rfl dX0_find_253 ?_
                      refine z_callVi X zm_X0_tryPieced zw532 zp20 zw530 (zFit_of (by decide) (by decide)) [.ref (ad (q1 + 3)), .ref (ad (q2 + 3))] (c_X0_tryPieced HU HA l R6 hq1 hq2 hva6 hvb6 hf9 ha0 hb0 (by rw [k1846]; exact hlcc0)) rfl rfl (Nat.le_of_ble_eq_true rfl) (by omega) gC_D (q := vwCl[2]) rfl rfl dX0_find_254 (fun z7 S7 hu7 => ?_)
                      obtain ⟨P7, R7, g7, hc7⟩ := hu7
                      rw [k1846] at hc7
                      have f7' : ∀ j, (j < 117 ∨ j = 182 ∨ j = 183) → P7 j = P j := fun j hj => by rw [g7 j (by omega), f6' j hj]
                      have k1847 : P7 184 = cc := by rw [g7 _ (by omega), k1846]
                      have k1887 : P7 188 = ld := by rw [g7 _ (by omega), k1886]
                      have hf97 : zV ca P7 12 f9 := zV_eq hf9 (fun i hi => g7 _ (by omega))
                      have k1897 : P7 189 = P6 189 := g7 _ (by omega)
                      have hz701 : z7 = 0 ∨ z7 = 1 := by rcases hc7 with ⟨h, -⟩ | ⟨h, -⟩ <;> omega
                      refine z_if_eq X (tgt := 261) (by omega) dX0_find_257 (by decide) (fun hb257 => ?_) (fun hb257 => ?_)
                      · refine z_iload X 0 rfl dX0_find_261 ?_
                        refine z_iload X 4 rfl dX0_find_263 ?_
                        refine z_icmp_lt X (tgt := 274) (by omega) (by omega) dX0_find_265 (by decide) (fun hb265 => ?_) (fun hb265 => ?_)
                        · refine z_iinc X [(7, .int (iZ (pt + 1))), (6, .int (iZ (np2 + 1))), (8, .int (iZ (z))), (5, .int (iZ (dg2))), (4, .int (iZ (nd))), (3, .int (iZ (rch))), (0, .ref (ad 2)), (1, .ref (ad (q1 + 3))), (2, .ref (ad (q2 + 3)))] 2 rfl rfl (by decide) dX0_find_274 ?_
                          refine z_goto X (tgt := 124) dX0_find_277 (by decide) ?_
                          exact ih (pt + 1) (np2 + 1) dg2 P7 S7 _ [0, 1, 3, 4, 5, 6, 7, 8] (by omega) (by omega) (by omega) (Or.inr (by omega)) (by omega) (by omega) R7 f7' k1847 k1887 (by
                            by_cases hG1 : (G : Int) = dg2 + 1
                            · rw [if_pos hG1]; have := hct1 hG1; omega
                            · rw [if_neg hG1]; have := hct0 hG1; have := hcy 0 (hbad (by omega)); omega) (fun _ => ⟨f9, hf97, by rw [k1897]; exact hJ9⟩) rfl
                        · have hGne : (G : Int) ≠ dg2 + 1 := fun hG1 => by
                            have e1 := zJ_end HU HA hJ9 hG1 (by omega)
                            obtain ⟨kk, hkk, hno⟩ := (hc7.resolve_left (fun q => by have := q.1; omega)).2 hf90
                            rw [e1] at hkk hno
                            obtain ⟨fx, e2, e3, e4⟩ := hhk kk hkk
                            exact hno fx e2 e3 e4
                          refine z_iinc X [(5, .int (iZ (dg2 + -1))), (6, .int (iZ (np2 + 1))), (8, .int (iZ (z))), (7, .int (iZ (pt))), (4, .int (iZ (nd))), (3, .int (iZ (rch))), (0, .ref (ad 2)), (1, .ref (ad (q1 + 3))), (2, .ref (ad (q2 + 3)))] 3 rfl rfl (by decide) dX0_find_268 ?_
                          refine z_iconst X (n := 0) dX0_find_271 ?_
                          refine z_istore X [(6, .int (iZ (0))), (5, .int (iZ (dg2 + -1))), (8, .int (iZ (z))), (7, .int (iZ (pt))), (4, .int (iZ (nd))), (3, .int (iZ (rch))), (0, .ref (ad 2)), (1, .ref (ad (q1 + 3))), (2, .ref (ad (q2 + 3)))] rfl (by decide) dX0_find_272 ?_
                          refine z_iinc X [(7, .int (iZ (pt + 1))), (6, .int (iZ (0))), (5, .int (iZ (dg2 + -1))), (8, .int (iZ (z))), (4, .int (iZ (nd))), (3, .int (iZ (rch))), (0, .ref (ad 2)), (1, .ref (ad (q1 + 3))), (2, .ref (ad (q2 + 3)))] 3 rfl rfl (by decide) dX0_find_274 ?_
                          refine z_goto X (tgt := 124) dX0_find_277 (by decide) ?_
                          have hGne : (G : Int) ≠ dg2 + 1 := hGne
                          have := hcy 0 (hbad (by omega))
                          exact ih (pt + 1) 0 (dg2 + -1) P7 S7 _ [0, 1, 2, 4, 5, 6, 7, 8] (by omega) (by omega) (by omega) (Or.inl rfl) (by omega) (by omega) R7 f7' k1847 k1887 (by have := hct0 hGne; split <;> omega) (fun q => absurd q (by omega)) rfl
                      · obtain ⟨-, fx, x, y, hfx, hx, hy, hl1, ex, ey, hcf, hsf⟩ := hc7.resolve_right (fun q => by have := q.1; omega)
                        exact E S7 ⟨P7, R7, f7', fx, hfx, Or.inr ⟨hl1, x, y, hx, hy, ex, ey, mq_found mp_FP HU HA ha0 hlcc0 hccg hcf ex ey (fun d d1 d2 => by have := hcom d d1 d2; omega)⟩⟩ rfl dX0_find_260
                    · refine z_iload X 0 rfl dX0_find_244 ?_
                      refine z_iload X 4 rfl dX0_find_246 ?_
                      refine z_icmp_lt X (tgt := 261) (by omega) (by omega) dX0_find_248 (by decide) (fun hb248 => ?_) (fun hb248 => ?_)
                      · refine z_iload X 0 rfl dX0_find_261 ?_
                        refine z_iload X 4 rfl dX0_find_263 ?_
                        refine z_icmp_lt X (tgt := 274) (by omega) (by omega) dX0_find_265 (by decide) (fun hb265 => ?_) (fun hb265 => ?_)
                        · refine z_iinc X [(7, .int (iZ (pt + 1))), (6, .int (iZ (np2 + 1))), (8, .int (iZ (z))), (5, .int (iZ (dg2))), (4, .int (iZ (nd))), (3, .int (iZ (rch))), (0, .ref (ad 2)), (1, .ref (ad (q1 + 3))), (2, .ref (ad (q2 + 3)))] 2 rfl rfl (by decide) dX0_find_274 ?_
                          refine z_goto X (tgt := 124) dX0_find_277 (by decide) ?_
                          exact ih (pt + 1) (np2 + 1) dg2 P6 S6 _ [0, 1, 3, 4, 5, 6, 7, 8] (by omega) (by omega) (by omega) (Or.inr (by omega)) (by omega) (by omega) R6 f6' k1846 k1886 (by
                            by_cases hG1 : (G : Int) = dg2 + 1
                            · rw [if_pos hG1]; have := hct1 hG1; omega
                            · rw [if_neg hG1]; have := hct0 hG1; have := hcy 0 (hbad (by omega)); omega) (fun _ => ⟨f9, hf9, hJ9⟩) rfl
                        · exfalso
                          omega
                      · refine z_aload_n X 6 rfl rfl dX0_find_251 ?_
                        refine z_aload_n X 7 rfl rfl dX0_find_252 ?_
                        refine z_aload_n X 8 rfl rfl dX0_find_253 ?_
                        refine z_callVi X zm_X0_tryPieced zw532 zp20 zw530 (zFit_of (by decide) (by decide)) [.ref (ad (q1 + 3)), .ref (ad (q2 + 3))] (c_X0_tryPieced HU HA l R6 hq1 hq2 hva6 hvb6 hf9 ha0 hb0 (by rw [k1846]; exact hlcc0)) rfl rfl (Nat.le_of_ble_eq_true rfl) (by omega) gC_D (q := vwCl[2]) rfl rfl dX0_find_254 (fun z7 S7 hu7 => ?_)
                        obtain ⟨P7, R7, g7, hc7⟩ := hu7
                        rw [k1846] at hc7
                        have f7' : ∀ j, (j < 117 ∨ j = 182 ∨ j = 183) → P7 j = P j := fun j hj => by rw [g7 j (by omega), f6' j hj]
                        have k1847 : P7 184 = cc := by rw [g7 _ (by omega), k1846]
                        have k1887 : P7 188 = ld := by rw [g7 _ (by omega), k1886]
                        have hf97 : zV ca P7 12 f9 := zV_eq hf9 (fun i hi => g7 _ (by omega))
                        have k1897 : P7 189 = P6 189 := g7 _ (by omega)
                        have hz701 : z7 = 0 ∨ z7 = 1 := by rcases hc7 with ⟨h, -⟩ | ⟨h, -⟩ <;> omega
                        refine z_if_eq X (tgt := 261) (by omega) dX0_find_257 (by decide) (fun hb257 => ?_) (fun hb257 => ?_)
                        · refine z_iload X 0 rfl dX0_find_261 ?_
                          refine z_iload X 4 rfl dX0_find_263 ?_
                          refine z_icmp_lt X (tgt := 274) (by omega) (by omega) dX0_find_265 (by decide) (fun hb265 => ?_) (fun hb265 => ?_)
                          · refine z_iinc X [(7, .int (iZ (pt + 1))), (6, .int (iZ (np2 + 1))), (8, .int (iZ (z))), (5, .int (iZ (dg2))), (4, .int (iZ (nd))), (3, .int (iZ (rch))), (0, .ref (ad 2)), (1, .ref (ad (q1 + 3))), (2, .ref (ad (q2 + 3)))] 2 rfl rfl (by decide) dX0_find_274 ?_
                            refine z_goto X (tgt := 124) dX0_find_277 (by decide) ?_
                            exact ih (pt + 1) (np2 + 1) dg2 P7 S7 _ [0, 1, 3, 4, 5, 6, 7, 8] (by omega) (by omega) (by omega) (Or.inr (by omega)) (by omega) (by omega) R7 f7' k1847 k1887 (by
                              by_cases hG1 : (G : Int) = dg2 + 1
                              · rw [if_pos hG1]; have := hct1 hG1; omega
                              · rw [if_neg hG1]; have := hct0 hG1; have := hcy 0 (hbad (by omega)); omega) (fun _ => ⟨f9, hf97, by rw [k1897]; exact hJ9⟩) rfl
                          · have hGne : (G : Int) ≠ dg2 + 1 := fun hG1 => by
                              have e1 := zJ_end HU HA hJ9 hG1 (by omega)
                              obtain ⟨kk, hkk, hno⟩ := (hc7.resolve_left (fun q => by have := q.1; omega)).2 hf90
                              rw [e1] at hkk hno
                              obtain ⟨fx, e2, e3, e4⟩ := hhk kk hkk
                              exact hno fx e2 e3 e4
                            refine z_iinc X [(5, .int (iZ (dg2 + -1))), (6, .int (iZ (np2 + 1))), (8, .int (iZ (z))), (7, .int (iZ (pt))), (4, .int (iZ (nd))), (3, .int (iZ (rch))), (0, .ref (ad 2)), (1, .ref (ad (q1 + 3))), (2, .ref (ad (q2 + 3)))] 3 rfl rfl (by decide) dX0_find_268 ?_
                            refine z_iconst X (n := 0) dX0_find_271 ?_
                            refine z_istore X [(6, .int (iZ (0))), (5, .int (iZ (dg2 + -1))), (8, .int (iZ (z))), (7, .int (iZ (pt))), (4, .int (iZ (nd))), (3, .int (iZ (rch))), (0, .ref (ad 2)), (1, .ref (ad (q1 + 3))), (2, .ref (ad (q2 + 3)))] rfl (by decide) dX0_find_272 ?_
                            refine z_iinc X [(7, .int (iZ (pt + 1))), (6, .int (iZ (0))), (5, .int (iZ (dg2 + -1))), (8, .int (iZ (z))), (4, .int (iZ (nd))), (3, .int (iZ (rch))), (0, .ref (ad 2)), (1, .ref (ad (q1 + 3))), (2, .ref (ad (q2 + 3)))] 3 rfl rfl (by decide) dX0_find_274 ?_
                            refine z_goto X (tgt := 124) dX0_find_277 (by decide) ?_
                            have hGne : (G : Int) ≠ dg2 + 1 := hGne
                            have := hcy 0 (hbad (by omega))
                            exact ih (pt + 1) 0 (dg2 + -1) P7 S7 _ [0, 1, 2, 4, 5, 6, 7, 8] (by omega) (by omega) (by omega) (Or.inl rfl) (by omega) (by omega) R7 f7' k1847 k1887 (by have := hct0 hGne; split <;> omega) (fun q => absurd q (by omega)) rfl
                        · obtain ⟨-, fx, x, y, hfx, hx, hy, hl1, ex, ey, hcf, hsf⟩ := hc7.resolve_right (fun q => by have := q.1; omega)
                          exact E S7 ⟨P7, R7, f7', fx, hfx, Or.inr ⟨hl1, x, y, hx, hy, ex, ey, mq_found mp_FP HU HA ha0 hlcc0 hccg hcf ex ey (fun d d1 d2 => by have := hcom d d1 d2; omega)⟩⟩ rfl dX0_find_260
                  refine z_aload_n X 5 rfl rfl dX0_find_176 ?_
                  refine z_get X zinX0 2 (by omega) gC_D (ci := 2) rfl 11 (by decide) (ref := "TowerFields$Divisor") zw77 rfl rfl dX0_find_177 ?_
                  refine zl_degN X (by omega) ((mp_sz cu k : Int) - 1) (by have h := R4.2.2.2.1 190 (by omega); rw [← hkd] at h; exact h) (List.mem_of_getElem? (i := 1) rfl) dX0_find_180 ?_
                  refine z_iload X 2 rfl dX0_find_183 ?_
                  refine z_icmp_lt X (tgt := 193) (by omega) (by omega) dX0_find_185 (by decide) (fun hb185 => ?_) (fun hb185 => ?_)
                  · have hnew : (mp_sz cu k : Int) - 1 < dg ∨ np = 0 := Or.inl (by omega)
                    refine z_aload_n X 5 rfl rfl dX0_find_193 ?_
                    refine z_get X zinX0 2 (by omega) gC_D (ci := 2) rfl 11 (by decide) (ref := "TowerFields$Divisor") zw77 rfl rfl dX0_find_194 ?_
                    refine zl_degN X (by omega) ((mp_sz cu k : Int) - 1) (by have h := R4.2.2.2.1 190 (by omega); rw [← hkd] at h; exact h) (List.mem_of_getElem? (i := 1) rfl) dX0_find_197 ?_
                    refine z_istore X [(5, .int (iZ ((mp_sz cu k : Int) - 1))), (7, .int (iZ (pt))), (6, .int (iZ (np))), (4, .int (iZ (nd))), (3, .int (iZ (rch))), (0, .ref (ad 2)), (1, .ref (ad (q1 + 3))), (2, .ref (ad (q2 + 3)))] rfl (by decide) dX0_find_200 ?_
                    refine z_iconst X (n := 0) dX0_find_202 ?_
                    refine z_istore X [(6, .int (iZ (0))), (5, .int (iZ ((mp_sz cu k : Int) - 1))), (7, .int (iZ (pt))), (4, .int (iZ (nd))), (3, .int (iZ (rch))), (0, .ref (ad 2)), (1, .ref (ad (q1 + 3))), (2, .ref (ad (q2 + 3)))] rfl (by decide) dX0_find_203 ?_
                    refine z_aload_n X 5 rfl rfl dX0_find_205 ?_
                    refine z_get X zinX0 2 (by omega) gC_D (ci := 2) rfl 3 (by decide) (ref := "TowerFields$Divisor") zw69 rfl rfl dX0_find_206 ?_
                    refine z_callVv X zm_X2_clear zw286 zw287 zw464 (zFit_of (by decide) (by decide)) [] (c_X2_clear HU l R4 (q := 12) (by omega)) rfl rfl (Nat.le_of_ble_eq_true rfl) (by omega) (gC_P (by omega)) (q := vwCl[4]) rfl rfl dX0_find_209 (fun S5a R5a => ?_)
                    obtain ⟨P5a, hP5a⟩ : ∃ Q5, Q5 = pwn P4 12 (fun _ => (0 : U)) 13 := ⟨_, rfl⟩
                    rw [← hP5a] at R5a
                    have g5a : ∀ j, (j < 156 ∨ 169 ≤ j) → P5a j = P4 j := fun j hj => by rw [hP5a]; exact pwn_out P4 12 _ (by omega)
                    have hv12a : zV ca P5a 12 (0 : V) := ⟨fun i hi => by rw [hP5a, pwn_in P4 12 _ hi, mp_zero HA], by rw [(mp_sz_0 HA).mpr rfl]; omega⟩
                    refine z_aload_n X 5 rfl rfl dX0_find_212 ?_
                    refine z_get X zinX0 2 (by omega) gC_D (ci := 2) rfl 10 (by decide) (ref := "TowerFields$Divisor") zw76 rfl rfl dX0_find_213 ?_
                    refine z_callVv X zm_X1_clear zw290 zw291 zw490 (zFit_of (by decide) (by decide)) [] (c_X1_clear HU l R5a (k := 189) (by omega)) rfl rfl (Nat.le_of_ble_eq_true rfl) (by omega) (gC_L (by omega)) (q := vwCl[3]) rfl rfl dX0_find_216 (fun S5b R5b => ?_)
                    refine z_aload_n X 5 rfl rfl dX0_find_219 ?_
                    refine z_get X zinX0 2 (by omega) gC_D (ci := 2) rfl 10 (by decide) (ref := "TowerFields$Divisor") zw76 rfl rfl dX0_find_220 ?_
                    refine z_iconst X (n := 0) dX0_find_223 ?_
                    refine z_iconst X (n := 1) dX0_find_224 ?_
                    refine z_eqi (b := vz (1 : FP)) rfl ?_
                    refine z_callVv X zm_X1_put zw117 zw118 zw519 (zFit_of (by decide) (by decide)) [.int (iZ (0)), .int (iZ (vz (1 : FP)))] (c_X1_put HU l R5b (k := 189) (by omega) (i := 0) (by omega) (by omega) 1) rfl rfl (Nat.le_of_ble_eq_true rfl) (by omega) (gC_L (by omega)) (q := vwCl[3]) rfl rfl dX0_find_225 (fun S5 R5 => ?_)
                    rw [va_uu, va_up_self] at R5
                    obtain ⟨P5, hP5⟩ : ∃ Q5, Q5 = va_up P5a 189 (pu cu 0 (0 : Int).toNat 1) := ⟨_, rfl⟩
                    rw [← hP5] at R5
                    have k1895 : P5 189 = 1 := by
                      rw [hP5, va_up_self]
                      exact mp_ext HU (fun j => by rw [pu_cf HU, mp_one HU, mp_zero HU]; rfl)
                    have f5' : ∀ j, (j < 117 ∨ j = 182 ∨ j = 183) → P5 j = P j := fun j hj => by rw [hP5, va_up_ne _ _ (by omega), g5a j (by omega), f4' j hj]
                    have k1845 : P5 184 = cc := by rw [hP5, va_up_ne _ _ (by omega), g5a _ (by omega), k1844]
                    have k1885 : P5 188 = ld := by rw [hP5, va_up_ne _ _ (by omega), g5a _ (by omega), k1884]
                    have k1905 : P5 190 = k := by rw [hP5, va_up_ne _ _ (by omega), g5a _ (by omega), hkd]
                    have hv125 : zV ca P5 12 (0 : V) := zV_eq hv12a (fun i hi => by rw [hP5, va_up_ne _ _ (by omega)])
                    refine tail 0 P5 S5 _ [2, 0, 1, 3, 4, 5, 6, 7] (by omega) (by omega) R5 f5' k1845 k1885 k1905 (fun q => ?_) (fun q => ?_) ⟨0, hv125, by rw [k1895]; exact zJ_0 HU HA h G pt (by omega)⟩ rfl
                    · by_cases hold : (G : Int) = dg + 1
                      · rw [if_pos hold] at h11
                        rcases hnew with hn | hn <;> omega
                      · rw [if_neg hold] at h11
                        omega
                    · by_cases hold : (G : Int) = dg + 1
                      · rw [if_pos hold] at h11
                        rcases hnew with hn | hn <;> omega
                      · rw [if_neg hold] at h11
                        omega
                  · refine z_iload X 1 rfl dX0_find_188 ?_
                    refine z_if_ne X (tgt := 228) (by omega) dX0_find_190 (by decide) (fun hb190 => ?_) (fun hb190 => ?_)
                    · obtain ⟨f, hf, hJ⟩ := h12 (by omega)
                      have hdk : dg = (mp_sz cu k : Int) - 1 := by omega
                      exact tail np P4 S4 _ [0, 1, 2, 3, 4, 5, 6, 7] h3 h4 R4 f4' k1844 k1884 hkd.symm (fun q => by rw [if_pos (by omega)] at h11; exact h11) (fun q => by rw [if_neg (by omega)] at h11; omega) ⟨f, zV_eq hf (fun i hi => f4 _ (by omega) (by omega) (by omega)), by rw [f4 189 (by omega) (by omega) (by omega), ← hdk]; exact hJ⟩ (by rw [hdk]; rfl)
                    · have hnew : (mp_sz cu k : Int) - 1 < dg ∨ np = 0 := Or.inr (by omega)
                      refine z_aload_n X 5 rfl rfl dX0_find_193 ?_
                      refine z_get X zinX0 2 (by omega) gC_D (ci := 2) rfl 11 (by decide) (ref := "TowerFields$Divisor") zw77 rfl rfl dX0_find_194 ?_
                      refine zl_degN X (by omega) ((mp_sz cu k : Int) - 1) (by have h := R4.2.2.2.1 190 (by omega); rw [← hkd] at h; exact h) (List.mem_of_getElem? (i := 1) rfl) dX0_find_197 ?_
                      refine z_istore X [(5, .int (iZ ((mp_sz cu k : Int) - 1))), (7, .int (iZ (pt))), (6, .int (iZ (np))), (4, .int (iZ (nd))), (3, .int (iZ (rch))), (0, .ref (ad 2)), (1, .ref (ad (q1 + 3))), (2, .ref (ad (q2 + 3)))] rfl (by decide) dX0_find_200 ?_
                      refine z_iconst X (n := 0) dX0_find_202 ?_
                      refine z_istore X [(6, .int (iZ (0))), (5, .int (iZ ((mp_sz cu k : Int) - 1))), (7, .int (iZ (pt))), (4, .int (iZ (nd))), (3, .int (iZ (rch))), (0, .ref (ad 2)), (1, .ref (ad (q1 + 3))), (2, .ref (ad (q2 + 3)))] rfl (by decide) dX0_find_203 ?_
                      refine z_aload_n X 5 rfl rfl dX0_find_205 ?_
                      refine z_get X zinX0 2 (by omega) gC_D (ci := 2) rfl 3 (by decide) (ref := "TowerFields$Divisor") zw69 rfl rfl dX0_find_206 ?_
                      refine z_callVv X zm_X2_clear zw286 zw287 zw464 (zFit_of (by decide) (by decide)) [] (c_X2_clear HU l R4 (q := 12) (by omega)) rfl rfl (Nat.le_of_ble_eq_true rfl) (by omega) (gC_P (by omega)) (q := vwCl[4]) rfl rfl dX0_find_209 (fun S5a R5a => ?_)
                      obtain ⟨P5a, hP5a⟩ : ∃ Q5, Q5 = pwn P4 12 (fun _ => (0 : U)) 13 := ⟨_, rfl⟩
                      rw [← hP5a] at R5a
                      have g5a : ∀ j, (j < 156 ∨ 169 ≤ j) → P5a j = P4 j := fun j hj => by rw [hP5a]; exact pwn_out P4 12 _ (by omega)
                      have hv12a : zV ca P5a 12 (0 : V) := ⟨fun i hi => by rw [hP5a, pwn_in P4 12 _ hi, mp_zero HA], by rw [(mp_sz_0 HA).mpr rfl]; omega⟩
                      refine z_aload_n X 5 rfl rfl dX0_find_212 ?_
                      refine z_get X zinX0 2 (by omega) gC_D (ci := 2) rfl 10 (by decide) (ref := "TowerFields$Divisor") zw76 rfl rfl dX0_find_213 ?_
                      refine z_callVv X zm_X1_clear zw290 zw291 zw490 (zFit_of (by decide) (by decide)) [] (c_X1_clear HU l R5a (k := 189) (by omega)) rfl rfl (Nat.le_of_ble_eq_true rfl) (by omega) (gC_L (by omega)) (q := vwCl[3]) rfl rfl dX0_find_216 (fun S5b R5b => ?_)
                      refine z_aload_n X 5 rfl rfl dX0_find_219 ?_
                      refine z_get X zinX0 2 (by omega) gC_D (ci := 2) rfl 10 (by decide) (ref := "TowerFields$Divisor") zw76 rfl rfl dX0_find_220 ?_
                      refine z_iconst X (n := 0) dX0_find_223 ?_
                      refine z_iconst X (n := 1) dX0_find_224 ?_
                      refine z_eqi (b := vz (1 : FP)) rfl ?_
                      refine z_callVv X zm_X1_put zw117 zw118 zw519 (zFit_of (by decide) (by decide)) [.int (iZ (0)), .int (iZ (vz (1 : FP)))] (c_X1_put HU l R5b (k := 189) (by omega) (i := 0) (by omega) (by omega) 1) rfl rfl (Nat.le_of_ble_eq_true rfl) (by omega) (gC_L (by omega)) (q := vwCl[3]) rfl rfl dX0_find_225 (fun S5 R5 => ?_)
                      rw [va_uu, va_up_self] at R5
                      obtain ⟨P5, hP5⟩ : ∃ Q5, Q5 = va_up P5a 189 (pu cu 0 (0 : Int).toNat 1) := ⟨_, rfl⟩
                      rw [← hP5] at R5
                      have k1895 : P5 189 = 1 := by
                        rw [hP5, va_up_self]
                        exact mp_ext HU (fun j => by rw [pu_cf HU, mp_one HU, mp_zero HU]; rfl)
                      have f5' : ∀ j, (j < 117 ∨ j = 182 ∨ j = 183) → P5 j = P j := fun j hj => by rw [hP5, va_up_ne _ _ (by omega), g5a j (by omega), f4' j hj]
                      have k1845 : P5 184 = cc := by rw [hP5, va_up_ne _ _ (by omega), g5a _ (by omega), k1844]
                      have k1885 : P5 188 = ld := by rw [hP5, va_up_ne _ _ (by omega), g5a _ (by omega), k1884]
                      have k1905 : P5 190 = k := by rw [hP5, va_up_ne _ _ (by omega), g5a _ (by omega), hkd]
                      have hv125 : zV ca P5 12 (0 : V) := zV_eq hv12a (fun i hi => by rw [hP5, va_up_ne _ _ (by omega)])
                      refine tail 0 P5 S5 _ [2, 0, 1, 3, 4, 5, 6, 7] (by omega) (by omega) R5 f5' k1845 k1885 k1905 (fun q => ?_) (fun q => ?_) ⟨0, hv125, by rw [k1895]; exact zJ_0 HU HA h G pt (by omega)⟩ rfl
                      · by_cases hold : (G : Int) = dg + 1
                        · rw [if_pos hold] at h11
                          rcases hnew with hn | hn <;> omega
                        · rw [if_neg hold] at h11
                          omega
                      · by_cases hold : (G : Int) = dg + 1
                        · rw [if_pos hold] at h11
                          rcases hnew with hn | hn <;> omega
                        · rw [if_neg hold] at h11
                          omega
                · refine z_goto X (tgt := 280) dX0_find_173 (by decide) ?_
                  exact fin P4 S4 _ [5, 6, 7] R4 (f4') k1844 (by omega) rfl
              · refine z_goto X (tgt := 274) dX0_find_160 (by decide) ?_
                have := hcy 0 (hbad (by omega))
                refine z_iinc X [(7, .int (iZ (pt + 1))), (6, .int (iZ (np))), (5, .int (iZ (dg))), (4, .int (iZ (nd))), (3, .int (iZ (rch))), (0, .ref (ad 2)), (1, .ref (ad (q1 + 3))), (2, .ref (ad (q2 + 3)))] 0 rfl rfl (by decide) dX0_find_274 ?_
                refine z_goto X (tgt := 124) dX0_find_277 (by decide) ?_
                exact ih (pt + 1) np dg P4 S4 _ [0, 1, 2, 3, 4, 5, 6, 7] (by omega) (by omega) h3 h4 h5 h6 R4 f4' k1844 k1884 (by split at h11 <;> split <;> omega) hJ4 rfl
      exact loop 32003 0 0 dg P1 S1 _ [0, 1, 2, 3, 4, 5, 6, 7] (by omega) (by omega) (by omega) (Or.inl rfl) (by omega) (by omega) R1 (fun j hj => f1 j (by omega)) k184 k188 (by rw [show (0 : Int).toNat = 0 from rfl, mp_ct]; split <;> omega) (fun q => absurd q (by omega)) rfl
    · refine z_aload_n X 0 rfl rfl dX0_find_14 ?_
      refine z_get X zinX0 2 (by omega) gC_D (ci := 2) rfl 0 (by decide) (ref := "TowerFields$Divisor") zw63 rfl rfl dX0_find_15 ?_
      refine z_aload_n X 1 rfl rfl dX0_find_18 ?_
      refine z_callVi X zm_X2_isZero zw419 zw420 zw431 (zFit_of (by decide) (by decide)) [] (c_X2_isZero HU HA l hR (q := q1) (by omega) hva) rfl rfl (Nat.le_of_ble_eq_true rfl) (by omega) (gC_P (by omega)) (q := vwCl[4]) rfl rfl dX0_find_19 (fun z3 _ hz3 => ?_)
      have h31 : z3 = 0 → a ≠ 0 := fun h0 q => by rw [if_pos q] at hz3; omega
      have h32 : ¬ z3 = 0 → a = 0 := fun h0 => Classical.byContradiction (fun q => by rw [if_neg q] at hz3; omega)
      have hz301 : z3 = 0 ∨ z3 = 1 := by rw [hz3]; split <;> omega
      refine z_if_eq X (tgt := 29) (by omega) dX0_find_22 (by decide) (fun hb22 => ?_) (fun hb22 => ?_)
      · refine z_aload_n X 1 rfl rfl dX0_find_29 ?_
        obtain ⟨v, hv0, hvv⟩ : ∃ v, v = a ∧ zV ca P q1 v := ⟨_, rfl, hva⟩
        have hoz : b = 0 := by first | exact hb2 (by omega) | exact absurd (ha2 (by omega)) (h31 (by omega)) | exact h32 (by omega)
        refine z_callVv X zm_X2_copyOf zw433 zw434 zw432 (zFit_of (by decide) (by decide)) [.ref (ad (q1 + 3))] (c_X2_copyOf HU l hR (q := 9) (q2 := q1) (by omega) (by omega) (by omega)) rfl rfl (Nat.le_of_ble_eq_true rfl) (by omega) (gC_P (by omega)) (q := vwCl[4]) rfl rfl dX0_find_30 (fun S1 R1 => ?_)
        obtain ⟨P1, hP1⟩ : ∃ P1, P1 = pwn P 9 (fun i => P (13 * q1 + i)) 13 := ⟨_, rfl⟩
        rw [← hP1] at R1
        have f1 : ∀ j, (j < 117 ∨ 130 ≤ j) → P1 j = P j := fun j hj => by rw [hP1]; exact pwn_out P 9 _ (by omega)
        have hv9 : zV ca P1 9 v := ⟨fun i hi => by rw [hP1, pwn_in P 9 _ hi]; exact hvv.1 i hi, hvv.2⟩
        refine z_aload_n X 0 rfl rfl dX0_find_33 ?_
        refine z_get X zinX0 2 (by omega) gC_D (ci := 2) rfl 0 (by decide) (ref := "TowerFields$Divisor") zw63 rfl rfl dX0_find_34 ?_
        refine z_aload_n X 0 rfl rfl dX0_find_37 ?_
        refine z_get X zinX0 2 (by omega) gC_D (ci := 2) rfl 0 (by decide) (ref := "TowerFields$Divisor") zw63 rfl rfl dX0_find_38 ?_
        refine z_callVi X zm_X2_head zw441 zw442 zw440 (zFit_of (by decide) (by decide)) [] (c_X2_head HU HA l R1 (q := 9) (by omega) hv9) rfl rfl (Nat.le_of_ble_eq_true rfl) (by omega) (gC_P (by omega)) (q := vwCl[4]) rfl rfl dX0_find_41 (fun z _ hz => ?_)
        subst hz
        refine z_callSNi X zm_X3_inverse zw279 (List.mem_of_getElem? (i := 6) rfl) (zFit_of (by decide) (by decide)) [.int (iZ (vz (mp_lc cu (mp_lc ca v))))] (c_X3_inverse l (gC ad cI cO S1) (mp_lc cu (mp_lc ca v))) rfl rfl (Nat.le_of_ble_eq_true rfl) dX0_find_44 (fun z _ hz => ?_)
        subst hz
        obtain ⟨y, hyd⟩ : ∃ y : FP, y = mf_inv (mp_lc cu (mp_lc ca v)) := ⟨_, rfl⟩
        rw [← hyd]
        refine z_callVv X zm_X2_scale zw448 zw449 zw447 (zFit_of (by decide) (by decide)) [.int (iZ (vz y))] (c_X2_scale HU l R1 (q := 9) (by omega) y) rfl rfl (Nat.le_of_ble_eq_true rfl) (by omega) (gC_P (by omega)) (q := vwCl[4]) rfl rfl dX0_find_47 (fun S2 R2 => ?_)
        obtain ⟨P2, hP2⟩ : ∃ P2, P2 = pwn P1 9 (fun i => mp_C cu y * P1 (13 * 9 + i)) 13 := ⟨_, rfl⟩
        rw [← hP2] at R2
        have f2 : ∀ j, (j < 117 ∨ 130 ≤ j) → P2 j = P1 j := fun j hj => by rw [hP2]; exact pwn_out P1 9 _ (by omega)
        have hvf2 : zV ca P2 9 (mp_C ca (mp_C cu y) * v) := by rw [hP2]; exact zV_scale HA hv9 _
        have hva2 : zV ca P2 q1 a := zV_eq hva (fun i hi => by rw [f2 _ (by omega), f1 _ (by omega)])
        have hvb2 : zV ca P2 q2 b := zV_eq hvb (fun i hi => by rw [f2 _ (by omega), f1 _ (by omega)])
        refine z_aload_n X 0 rfl rfl dX0_find_50 ?_
        refine z_aload_n X 1 rfl rfl dX0_find_51 ?_
        refine z_aload_n X 2 rfl rfl dX0_find_52 ?_
        refine z_callVi X zm_X0_divideBoth zw458 zp12 zw456 (zFit_of (by decide) (by decide)) [.ref (ad (q1 + 3)), .ref (ad (q2 + 3))] (c_X0_divideBoth HU HA l R2 hq1 hq2 hva2 hvb2 hvf2) rfl rfl (Nat.le_of_ble_eq_true rfl) (by omega) gC_D (q := vwCl[2]) rfl rfl dX0_find_53 (fun z S3 hu3 => ?_)
        obtain ⟨P3, R3, f3, hc3⟩ := hu3
        refine z_pop X rfl dX0_find_56 ?_
        refine E S3 ⟨P3, R3, fun j hj => by rw [f3 j (by omega) (by omega), f2 j (by omega), f1 j (by omega)], _, zV_eq hvf2 (fun i hi => f3 _ (by omega) (by omega)), ?_⟩ rfl dX0_find_57
        by_cases hvz : v = 0
        · exact Or.inl ⟨by first | exact hoz | exact hv0.symm.trans hvz, by first | exact hoz | exact hv0.symm.trans hvz, by rw [hvz]; grind⟩
        · obtain ⟨l1, l2, l3, l4, l5⟩ := zd_lclc HU HA hvz
          rw [← hyd] at l1 l3 l4 l5
          have hfn := mp_nz_mul hAd (mp_C_ne HA (mp_C_ne HU l1)) hvz
          rcases hc3 with ⟨-, -, x, y1, hx, hy1, ex, ey⟩ | ⟨-, hno⟩
          · refine Or.inr ⟨l3, x, y1, hx, hy1, ex, ey, fun d d1 d2 => ?_⟩
            have e9 : x = mp_C ca (mp_C cu (mp_lc cu (mp_lc ca v))) := mp_cancel hAd hfn (by rw [← ex, ← hv0]; grind)
            exact mp_U_of_D d1 (by rw [e9]; exact mp_CC_U mp_FP HU HA l2)
          · exact absurd trivial (fun _ => hno (mp_C ca (mp_C cu (mp_lc cu (mp_lc ca v)))) 0 hfn (by first | (rw [hoz]; grind) | (rw [← hv0]; grind)) (by first | (rw [hoz]; grind) | (rw [← hv0]; grind)))
      · refine z_aload_n X 2 rfl rfl dX0_find_25 ?_
        refine z_goto X (tgt := 30) dX0_find_26 (by decide) ?_
        obtain ⟨v, hv0, hvv⟩ : ∃ v, v = b ∧ zV ca P q2 v := ⟨_, rfl, hvb⟩
        have hoz : a = 0 := by first | exact ha2 (by omega) | exact absurd (ha2 (by omega)) (h31 (by omega)) | exact h32 (by omega)
        refine z_callVv X zm_X2_copyOf zw433 zw434 zw432 (zFit_of (by decide) (by decide)) [.ref (ad (q2 + 3))] (c_X2_copyOf HU l hR (q := 9) (q2 := q2) (by omega) (by omega) (by omega)) rfl rfl (Nat.le_of_ble_eq_true rfl) (by omega) (gC_P (by omega)) (q := vwCl[4]) rfl rfl dX0_find_30 (fun S1 R1 => ?_)
        obtain ⟨P1, hP1⟩ : ∃ P1, P1 = pwn P 9 (fun i => P (13 * q2 + i)) 13 := ⟨_, rfl⟩
        rw [← hP1] at R1
        have f1 : ∀ j, (j < 117 ∨ 130 ≤ j) → P1 j = P j := fun j hj => by rw [hP1]; exact pwn_out P 9 _ (by omega)
        have hv9 : zV ca P1 9 v := ⟨fun i hi => by rw [hP1, pwn_in P 9 _ hi]; exact hvv.1 i hi, hvv.2⟩
        refine z_aload_n X 0 rfl rfl dX0_find_33 ?_
        refine z_get X zinX0 2 (by omega) gC_D (ci := 2) rfl 0 (by decide) (ref := "TowerFields$Divisor") zw63 rfl rfl dX0_find_34 ?_
        refine z_aload_n X 0 rfl rfl dX0_find_37 ?_
        refine z_get X zinX0 2 (by omega) gC_D (ci := 2) rfl 0 (by decide) (ref := "TowerFields$Divisor") zw63 rfl rfl dX0_find_38 ?_
        refine z_callVi X zm_X2_head zw441 zw442 zw440 (zFit_of (by decide) (by decide)) [] (c_X2_head HU HA l R1 (q := 9) (by omega) hv9) rfl rfl (Nat.le_of_ble_eq_true rfl) (by omega) (gC_P (by omega)) (q := vwCl[4]) rfl rfl dX0_find_41 (fun z _ hz => ?_)
        subst hz
        refine z_callSNi X zm_X3_inverse zw279 (List.mem_of_getElem? (i := 6) rfl) (zFit_of (by decide) (by decide)) [.int (iZ (vz (mp_lc cu (mp_lc ca v))))] (c_X3_inverse l (gC ad cI cO S1) (mp_lc cu (mp_lc ca v))) rfl rfl (Nat.le_of_ble_eq_true rfl) dX0_find_44 (fun z _ hz => ?_)
        subst hz
        obtain ⟨y, hyd⟩ : ∃ y : FP, y = mf_inv (mp_lc cu (mp_lc ca v)) := ⟨_, rfl⟩
        rw [← hyd]
        refine z_callVv X zm_X2_scale zw448 zw449 zw447 (zFit_of (by decide) (by decide)) [.int (iZ (vz y))] (c_X2_scale HU l R1 (q := 9) (by omega) y) rfl rfl (Nat.le_of_ble_eq_true rfl) (by omega) (gC_P (by omega)) (q := vwCl[4]) rfl rfl dX0_find_47 (fun S2 R2 => ?_)
        obtain ⟨P2, hP2⟩ : ∃ P2, P2 = pwn P1 9 (fun i => mp_C cu y * P1 (13 * 9 + i)) 13 := ⟨_, rfl⟩
        rw [← hP2] at R2
        have f2 : ∀ j, (j < 117 ∨ 130 ≤ j) → P2 j = P1 j := fun j hj => by rw [hP2]; exact pwn_out P1 9 _ (by omega)
        have hvf2 : zV ca P2 9 (mp_C ca (mp_C cu y) * v) := by rw [hP2]; exact zV_scale HA hv9 _
        have hva2 : zV ca P2 q1 a := zV_eq hva (fun i hi => by rw [f2 _ (by omega), f1 _ (by omega)])
        have hvb2 : zV ca P2 q2 b := zV_eq hvb (fun i hi => by rw [f2 _ (by omega), f1 _ (by omega)])
        refine z_aload_n X 0 rfl rfl dX0_find_50 ?_
        refine z_aload_n X 1 rfl rfl dX0_find_51 ?_
        refine z_aload_n X 2 rfl rfl dX0_find_52 ?_
        refine z_callVi X zm_X0_divideBoth zw458 zp12 zw456 (zFit_of (by decide) (by decide)) [.ref (ad (q1 + 3)), .ref (ad (q2 + 3))] (c_X0_divideBoth HU HA l R2 hq1 hq2 hva2 hvb2 hvf2) rfl rfl (Nat.le_of_ble_eq_true rfl) (by omega) gC_D (q := vwCl[2]) rfl rfl dX0_find_53 (fun z S3 hu3 => ?_)
        obtain ⟨P3, R3, f3, hc3⟩ := hu3
        refine z_pop X rfl dX0_find_56 ?_
        refine E S3 ⟨P3, R3, fun j hj => by rw [f3 j (by omega) (by omega), f2 j (by omega), f1 j (by omega)], _, zV_eq hvf2 (fun i hi => f3 _ (by omega) (by omega)), ?_⟩ rfl dX0_find_57
        by_cases hvz : v = 0
        · exact Or.inl ⟨by first | exact hoz | exact hv0.symm.trans hvz, by first | exact hoz | exact hv0.symm.trans hvz, by rw [hvz]; grind⟩
        · obtain ⟨l1, l2, l3, l4, l5⟩ := zd_lclc HU HA hvz
          rw [← hyd] at l1 l3 l4 l5
          have hfn := mp_nz_mul hAd (mp_C_ne HA (mp_C_ne HU l1)) hvz
          rcases hc3 with ⟨-, -, x, y1, hx, hy1, ex, ey⟩ | ⟨-, hno⟩
          · refine Or.inr ⟨l3, x, y1, hx, hy1, ex, ey, fun d d1 d2 => ?_⟩
            have e9 : y1 = mp_C ca (mp_C cu (mp_lc cu (mp_lc ca v))) := mp_cancel hAd hfn (by rw [← ey, ← hv0]; grind)
            exact mp_U_of_D d2 (by rw [e9]; exact mp_CC_U mp_FP HU HA l2)
          · exact absurd trivial (fun _ => hno 0 (mp_C ca (mp_C cu (mp_lc cu (mp_lc ca v)))) hfn (by first | (rw [hoz]; grind) | (rw [← hv0]; grind)) (by first | (rw [hoz]; grind) | (rw [← hv0]; grind)))
