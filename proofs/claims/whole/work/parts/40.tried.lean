section
variable {R U A : Type}
theorem zd_lcC [Lean.Grind.CommRing R] [Lean.Grind.CommRing A] {cf : A → Nat → R} (H : mp_P cf) (hR : mp_NZ R) {r : R} (h : r ≠ 0) (a : A) : mp_lc cf (mp_C cf r * a) = r * mp_lc cf a := by
  rw [mp_lc, mp_sz_Cmul H hR h, mp_C_mul H]; rfl
theorem zV_scale [Lean.Grind.CommRing U] [Lean.Grind.CommRing A] {ca : A → Nat → U} (HA : mp_P ca) {P : Nat → U} {q : Nat} {a : A} (h : zV ca P q a) (x : U) : zV ca (pwn P q (fun i => x * P (13 * q + i)) 13) q (mp_C ca x * a) := ⟨fun i hi => by rw [pwn_in P q _ hi, h.1 i hi, mp_C_mul HA], mp_sz_le HA (fun n hn => by rw [mp_C_mul HA, zV_out HA h hn]; grind)⟩
theorem zd_lclc [Lean.Grind.CommRing U] [Lean.Grind.CommRing A] {cu : U → Nat → FP} {ca : A → Nat → U} (HU : mp_P cu) (HA : mp_P ca) {F : A} (hF : F ≠ 0) : mf_inv (mp_lc cu (mp_lc ca F)) ≠ 0 ∧ mp_lc cu (mp_lc ca F) ≠ 0 ∧ mp_lc cu (mp_lc ca (mp_C ca (mp_C cu (mf_inv (mp_lc cu (mp_lc ca F)))) * F)) = 1 ∧ mp_sz ca (mp_C ca (mp_C cu (mf_inv (mp_lc cu (mp_lc ca F)))) * F) = mp_sz ca F ∧ mp_C ca (mp_C cu (mp_lc cu (mp_lc ca F))) * mp_C ca (mp_C cu (mf_inv (mp_lc cu (mp_lc ca F)))) = 1 := by
  have h0 := mp_lc_ne HU (mp_lc_ne HA hF)
  have h1 := mf_inv_ne h0
  have h2 := mf_mul_inv h0
  refine ⟨h1, h0, ?_, mp_sz_Cmul HA (mp_dom HU (mp_Fd_nz mp_FP)) (mp_C_ne HU h1) F, ?_⟩
  · rw [zd_lcC HA (mp_dom HU (mp_Fd_nz mp_FP)) (mp_C_ne HU h1), zd_lcC HU (mp_Fd_nz mp_FP) h1]
    grind
  · rw [← mp_C_mulC HA, ← mp_C_mulC HU, h2, mp_C_1 HU, mp_C_1 HA]
end
set_option maxHeartbeats 8000000 in
set_option maxRecDepth 100000 in
/-- what is pieced together, tried -/
theorem c_X0_tryPieced {U V : Type} [Lean.Grind.CommRing U] [Lean.Grind.CommRing V] {cu : U → Nat → FP} {ca : V → Nat → U} (HU : mp_P cu) (HA : mp_P ca) (l : Launch) {D : va_G} {ad : Nat → Nat} {cI cO : ClassId} {P : Nat → U} {T : zRest} {S : zS} (hR : zR cu P T S) {q1 q2 : Nat} (hq1 : q1 < 9) (hq2 : q2 < 9) {a b g : V} (hva : zV ca P q1 a) (hvb : zV ca P q2 b) (hvg : zV ca P 12 g) (ha : a ≠ 0) (hb : b ≠ 0) (hc0 : P 184 ≠ 0) : zMi l yX0_tryPieced cX0_tryPieced 5 (some .boolean) 4 D (zTy cI cO) 419 ad [.ref (ad 2), .ref (ad (q1 + 3)), .ref (ad (q2 + 3))] (gC ad cI cO S) (gC ad cI cO) (fun z u => ∃ (P9 : Nat → U), zR cu P9 T u ∧ (∀ j, (j < 117 ∨ (156 ≤ j ∧ j < 169) ∨ (182 ≤ j ∧ j ≠ 187 ∧ j ≠ 190 ∧ j ≠ 191 ∧ j ≠ 192 ∧ j ≠ 193)) → P9 j = P j) ∧ ((z = 1 ∧ ∃ f x y, zV ca P9 9 f ∧ zV ca P9 10 x ∧ zV ca P9 11 y ∧ mp_lc cu (mp_lc ca f) = 1 ∧ a = f * x ∧ b = f * y ∧ mp_D (mp_C ca (P 184)) f ∧ mp_sz ca f = mp_sz ca g) ∨ (z = 0 ∧ (g ≠ 0 → ∃ kk, mq_ct cu ca g kk ∧ ∀ fx, mp_C ca kk * fx = mp_C ca (P 184) * g → mp_D fx a → mp_D fx b → False)))) := by
  have hxa := pA_xz HU HA hR (q := q1) (by omega) hva
  have hxb := pA_xz HU HA hR (q := q2) (by omega) hvb
  have hxg := pA_xz HU HA hR (q := 12) (by omega) hvg
  have hsg := hvg.2
  have hs4 := hR.2.2.2.2.1 184 (by omega)
  obtain ⟨cc, hcc⟩ : ∃ cc, cc = P 184 := ⟨_, rfl⟩
  rw [← hcc] at hc0 hs4
  have hAd := mp_dom HA (mp_dom HU (mp_Fd_nz mp_FP))
  refine z_goz zm_X0_tryPieced (Nat.le_of_ble_eq_true rfl) [(0, .ref (ad 2)), (1, .ref (ad (q1 + 3))), (2, .ref (ad (q2 + 3)))] rfl (fun p e s m args below meth c A Q X E => ?_)
  rw [← hcc] at E
  refine z_aload_n X 0 rfl rfl dX0_tryPieced_0 ?_
  refine z_aload_n X 0 rfl rfl dX0_tryPieced_1 ?_
  refine z_get X zinX0 2 (by omega) gC_D (ci := 2) rfl 3 (by decide) (ref := "TowerFields$Divisor") zw69 rfl rfl dX0_tryPieced_2 ?_
  refine z_aload_n X 0 rfl rfl dX0_tryPieced_5 ?_
  refine z_get X zinX0 2 (by omega) gC_D (ci := 2) rfl 8 (by decide) (ref := "TowerFields$Divisor") zw74 rfl rfl dX0_tryPieced_6 ?_
  refine z_callVv X zm_X0_contentOf zw488 zp15 zw486 (zFit_of (by decide) (by decide)) [.ref (ad (12 + 3)), .ref (ad (187 + 31))] (c_X0_contentOf HU HA l hR (q := 12) (k := 187) (by omega) hvg (by omega) (by omega) (by omega) (by omega)) rfl rfl (Nat.le_of_ble_eq_true rfl) (by omega) gC_D (q := vwCl[2]) rfl rfl dX0_tryPieced_9 (fun S1 hu1 => ?_)
  obtain ⟨P1, kk, R1, k187, hck, f1⟩ := hu1
  have k184 : P1 184 = cc := by rw [f1 _ (by omega) (by omega) (by omega), hcc]
  have hva1 : zV ca P1 q1 a := zV_eq hva (fun i hi => f1 _ (by omega) (by omega) (by omega))
  have hvb1 : zV ca P1 q2 b := zV_eq hvb (fun i hi => f1 _ (by omega) (by omega) (by omega))
  have hvg1 : zV ca P1 12 g := zV_eq hvg (fun i hi => f1 _ (by omega) (by omega) (by omega))
  have hskk := R1.2.2.2.2.1 187 (by omega)
  rw [k187] at hskk
  have hgz : g ≠ 0 → kk ≠ 0 ∧ mq_ct cu ca g kk := fun h => mq_cz_ne HU HA h hck
  obtain ⟨g1, eg, hg10⟩ : ∃ g1, g = mp_C ca kk * g1 ∧ (g = 0 → g1 = 0) := by
    by_cases h : g = 0
    · exact ⟨0, by rw [h]; grind, fun _ => rfl⟩
    · obtain ⟨g1, e⟩ := hck.2.1
      exact ⟨g1, e, fun z => absurd z h⟩
  have hgs : g ≠ 0 → g1 ≠ 0 ∧ mp_xz cu ca g + 1 = mp_sz cu kk + mp_xz cu ca g1 ∧ mp_sz ca g1 = mp_sz ca g := fun h => by
    have h1 : g1 ≠ 0 := fun z => h (by rw [eg, z]; grind)
    have h2 := mp_xz_mul mp_FP HU HA (mp_C_ne HA (hgz h).1) h1
    rw [← eg, mp_xz_C HU HA] at h2
    have h3 := mp_sz_Cmul HA (mp_dom HU (mp_Fd_nz mp_FP)) (hgz h).1 g1
    rw [← eg] at h3
    exact ⟨h1, h2, h3.symm⟩
  have hfx : g ≠ 0 → ∀ fx, mp_C ca kk * fx = mp_C ca cc * g → fx = mp_C ca cc * g1 := fun h fx e1 => mp_cancel hAd (mp_C_ne HA (hgz h).1) (by rw [e1, eg]; grind)
  refine z_aload_n X 1 rfl rfl dX0_tryPieced_12 ?_
  refine z_callVi X zm_X2_powerX zw467 zw468 zw466 (zFit_of (by decide) (by decide)) [] (c_X2_powerX HU HA l R1 (q := q1) (by omega) hva1) rfl rfl (Nat.le_of_ble_eq_true rfl) (by omega) (gC_P (by omega)) (q := vwCl[4]) rfl rfl dX0_tryPieced_13 (fun z _ hz => ?_)
  subst hz
  refine z_aload_n X 2 rfl rfl dX0_tryPieced_16 ?_
  refine z_callVi X zm_X2_powerX zw467 zw468 zw466 (zFit_of (by decide) (by decide)) [] (c_X2_powerX HU HA l R1 (q := q2) (by omega) hvb1) rfl rfl (Nat.le_of_ble_eq_true rfl) (by omega) (gC_P (by omega)) (q := vwCl[4]) rfl rfl dX0_tryPieced_17 (fun z _ hz => ?_)
  subst hz
  refine z_min X (by omega) (by omega) zw505 (Nat.le_of_ble_eq_true rfl) (Nat.le_of_ble_eq_true rfl) (Nat.le_refl _) (Nat.le_refl _) dX0_tryPieced_20 ?_
  obtain ⟨rch, hrch⟩ : ∃ h9 : Int, h9 = if (mp_xz cu ca b : Int) - 1 < (mp_xz cu ca a : Int) - 1 then (mp_xz cu ca b : Int) - 1 else (mp_xz cu ca a : Int) - 1 := ⟨_, rfl⟩
  rw [← hrch]
  have crch : ((mp_xz cu ca b : Int) - 1 < (mp_xz cu ca a : Int) - 1 ∧ rch = (mp_xz cu ca b : Int) - 1) ∨ (¬ (mp_xz cu ca b : Int) - 1 < (mp_xz cu ca a : Int) - 1 ∧ rch = (mp_xz cu ca a : Int) - 1) := by
    by_cases hc : (mp_xz cu ca b : Int) - 1 < (mp_xz cu ca a : Int) - 1
    · rw [if_pos hc] at hrch; exact Or.inl ⟨hc, hrch⟩
    · rw [if_neg hc] at hrch; exact Or.inr ⟨hc, hrch⟩
  refine z_istore_n X [(3, .int (iZ (rch))), (0, .ref (ad 2)), (1, .ref (ad (q1 + 3))), (2, .ref (ad (q2 + 3)))] rfl rfl (by decide) dX0_tryPieced_23 ?_
  refine z_aload_n X 1 rfl rfl dX0_tryPieced_24 ?_
  refine z_get X zinX0 2 (by omega) gC_D (ci := 2) rfl 3 (by decide) (ref := "TowerFields$Divisor") zw69 rfl rfl dX0_tryPieced_25 ?_
  refine z_callVi X zm_X2_powerX zw467 zw468 zw466 (zFit_of (by decide) (by decide)) [] (c_X2_powerX HU HA l R1 (q := 12) (by omega) hvg1) rfl rfl (Nat.le_of_ble_eq_true rfl) (by omega) (gC_P (by omega)) (q := vwCl[4]) rfl rfl dX0_tryPieced_28 (fun z _ hz => ?_)
  subst hz
  refine z_aload_n X 1 rfl rfl dX0_tryPieced_31 ?_
  refine z_get X zinX0 2 (by omega) gC_D (ci := 2) rfl 8 (by decide) (ref := "TowerFields$Divisor") zw74 rfl rfl dX0_tryPieced_32 ?_
  refine zl_degN X (by omega) ((mp_sz cu kk : Int) - 1) (by have h := R1.2.2.2.1 187 (by omega); rw [k187] at h; exact h) (List.mem_of_getElem? (i := 1) rfl) dX0_tryPieced_35 ?_
  refine z_isub X dX0_tryPieced_38 ?_
  refine z_aload_n X 1 rfl rfl dX0_tryPieced_39 ?_
  refine z_get X zinX0 2 (by omega) gC_D (ci := 2) rfl 5 (by decide) (ref := "TowerFields$Divisor") zw71 rfl rfl dX0_tryPieced_40 ?_
  refine zl_degN X (by omega) ((mp_sz cu cc : Int) - 1) (by have h := R1.2.2.2.1 184 (by omega); rw [k184] at h; exact h) (List.mem_of_getElem? (i := 1) rfl) dX0_tryPieced_43 ?_
  refine z_iadd X dX0_tryPieced_46 ?_
  refine z_iload_n X 0 rfl rfl dX0_tryPieced_47 ?_
  refine z_icmp_le X (tgt := 53) (by omega) (by omega) dX0_tryPieced_48 (by decide) (fun hb48 => ?_) (fun hb48 => ?_)
  · refine z_aload_n X 1 rfl rfl dX0_tryPieced_53 ?_
    refine z_get X zinX0 2 (by omega) gC_D (ci := 2) rfl 0 (by decide) (ref := "TowerFields$Divisor") zw63 rfl rfl dX0_tryPieced_54 ?_
    refine z_callVv X zm_X2_clear zw286 zw287 zw464 (zFit_of (by decide) (by decide)) [] (c_X2_clear HU l R1 (q := 9) (by omega)) rfl rfl (Nat.le_of_ble_eq_true rfl) (by omega) (gC_P (by omega)) (q := vwCl[4]) rfl rfl dX0_tryPieced_57 (fun S2 R2 => ?_)
    obtain ⟨P2, hP2⟩ : ∃ P2, P2 = pwn P1 9 (fun _ => (0 : U)) 13 := ⟨_, rfl⟩
    rw [← hP2] at R2
    have f2 : ∀ j, (j < 117 ∨ 130 ≤ j) → P2 j = P1 j := fun j hj => by rw [hP2]; exact pwn_out P1 9 _ (by omega)
    have hv9 : zV ca P2 9 (0 : V) := ⟨fun i hi => by rw [hP2, pwn_in P1 9 _ hi, mp_zero HA], by rw [(mp_sz_0 HA).mpr rfl]; omega⟩
    have hvg2 : zV ca P2 12 g := zV_eq hvg1 (fun i hi => f2 _ (by omega))
    refine z_aload_n X 1 rfl rfl dX0_tryPieced_60 ?_
    refine z_get X zinX0 2 (by omega) gC_D (ci := 2) rfl 3 (by decide) (ref := "TowerFields$Divisor") zw69 rfl rfl dX0_tryPieced_61 ?_
    refine z_callVi X zm_X2_powerT zw414 zw415 zw465 (zFit_of (by decide) (by decide)) [] (c_X2_powerT HU HA l R2 (q := 12) (by omega) hvg2) rfl rfl (Nat.le_of_ble_eq_true rfl) (by omega) (gC_P (by omega)) (q := vwCl[4]) rfl rfl dX0_tryPieced_64 (fun z _ hz => ?_)
    subst hz
    refine z_istore X [(4, .int (iZ ((mp_sz ca g : Int) - 1))), (3, .int (iZ (rch))), (0, .ref (ad 2)), (1, .ref (ad (q1 + 3))), (2, .ref (ad (q2 + 3)))] rfl (by decide) dX0_tryPieced_67 ?_
    have loop : ∀ (n : Nat) (i : Int) (P3 : Nat → U) (S3 : zS) (F : V), i + 1 = n → i < mp_sz ca g → zR cu P3 T S3 → zV ca P3 9 F → (∀ j : Nat, ca F j = if i < j then cc * ca g1 j else 0) → (∀ j, (j < 117 ∨ 130 ≤ j) → j ≠ 190 → j ≠ 192 → P3 j = P1 j) → Z p l e (zRm 4) s m args below meth c 5 D 419 ad A 0 0 Q 69 [(4, .int (iZ (i))), (3, .int (iZ (rch))), (0, .ref (ad 2)), (1, .ref (ad (q1 + 3))), (2, .ref (ad (q2 + 3)))] [] (gC ad cI cO S3) := by
      intro n
      induction n with
      | zero =>
        intro i P3 S3 F h1 h2 h3 h4 h5 h6
        refine z_iload X 0 rfl dX0_tryPieced_69 ?_
        refine z_if_lt X (tgt := 132) (by omega) dX0_tryPieced_71 (by decide) (fun hb71 => ?_) (fun hb71 => absurd hb71 (by omega))
        have eF : F = mp_C ca cc * g1 := mp_ext HA (fun j => by rw [h5 j, if_pos (by omega), mp_C_mul HA])
        refine z_aload_n X 2 rfl rfl dX0_tryPieced_132 ?_
        refine z_get X zinX0 2 (by omega) gC_D (ci := 2) rfl 0 (by decide) (ref := "TowerFields$Divisor") zw63 rfl rfl dX0_tryPieced_133 ?_
        refine z_aload_n X 2 rfl rfl dX0_tryPieced_136 ?_
        refine z_get X zinX0 2 (by omega) gC_D (ci := 2) rfl 0 (by decide) (ref := "TowerFields$Divisor") zw63 rfl rfl dX0_tryPieced_137 ?_
        refine z_callVi X zm_X2_head zw441 zw442 zw440 (zFit_of (by decide) (by decide)) [] (c_X2_head HU HA l h3 (q := 9) (by omega) h4) rfl rfl (Nat.le_of_ble_eq_true rfl) (by omega) (gC_P (by omega)) (q := vwCl[4]) rfl rfl dX0_tryPieced_140 (fun z _ hz => ?_)
        subst hz
        refine z_callSNi X zm_X3_inverse zw279 (List.mem_of_getElem? (i := 6) rfl) (zFit_of (by decide) (by decide)) [.int (iZ (vz (mp_lc cu (mp_lc ca F))))] (c_X3_inverse l (gC ad cI cO S3) (mp_lc cu (mp_lc ca F))) rfl rfl (Nat.le_of_ble_eq_true rfl) dX0_tryPieced_143 (fun z _ hz => ?_)
        subst hz
        obtain ⟨y, hyd⟩ : ∃ y : FP, y = mf_inv (mp_lc cu (mp_lc ca F)) := ⟨_, rfl⟩
        rw [← hyd]
        refine z_callVv X zm_X2_scale zw448 zw449 zw447 (zFit_of (by decide) (by decide)) [.int (iZ (vz y))] (c_X2_scale HU l h3 (q := 9) (by omega) y) rfl rfl (Nat.le_of_ble_eq_true rfl) (by omega) (gC_P (by omega)) (q := vwCl[4]) rfl rfl dX0_tryPieced_146 (fun S5 R5 => ?_)
        obtain ⟨P5, hP5⟩ : ∃ P5, P5 = pwn P3 9 (fun i => mp_C cu y * P3 (13 * 9 + i)) 13 := ⟨_, rfl⟩
        rw [← hP5] at R5
        have f5 : ∀ j, (j < 117 ∨ 130 ≤ j) → P5 j = P3 j := fun j hj => by rw [hP5]; exact pwn_out P3 9 _ (by omega)
        have hvf5 : zV ca P5 9 (mp_C ca (mp_C cu y) * F) := by rw [hP5]; exact zV_scale HA h4 _
        have hva5 : zV ca P5 q1 a := zV_eq hva1 (fun i hi => by rw [f5 _ (by omega), h6 _ (by omega) (by omega) (by omega)])
        have hvb5 : zV ca P5 q2 b := zV_eq hvb1 (fun i hi => by rw [f5 _ (by omega), h6 _ (by omega) (by omega) (by omega)])
        refine z_aload_n X 2 rfl rfl dX0_tryPieced_149 ?_
        refine z_aload_n X 3 rfl rfl dX0_tryPieced_150 ?_
        refine z_aload_n X 4 rfl rfl dX0_tryPieced_151 ?_
        refine z_callVi X zm_X0_divideBoth zw458 zp12 zw456 (zFit_of (by decide) (by decide)) [.ref (ad (q1 + 3)), .ref (ad (q2 + 3))] (c_X0_divideBoth HU HA l R5 hq1 hq2 hva5 hvb5 hvf5) rfl rfl (Nat.le_of_ble_eq_true rfl) (by omega) gC_D (q := vwCl[2]) rfl rfl dX0_tryPieced_152 (fun z S6 hu6 => ?_)
        obtain ⟨P6, R6, f6, hc6⟩ := hu6
        refine E S6 (by rcases hc6 with ⟨h, -⟩ | ⟨h, -⟩ <;> omega) ⟨P6, R6, fun j hj => by rw [f6 j (by omega) (by omega), f5 j (by omega), h6 j (by omega) (by omega) (by omega), f1 j (by omega) (by omega) (by omega)], ?_⟩ rfl dX0_tryPieced_155
        rcases hc6 with ⟨hz1, hf0, x, y1, hx, hy1, ex, ey⟩ | ⟨hz0, hno⟩
        · have hF0 : F ≠ 0 := fun z => hf0 (by rw [z]; grind)
          obtain ⟨l1, l2, l3, l4, l5⟩ := zd_lclc HU HA hF0
          rw [← hyd] at l3 l4
          have hg0 : g ≠ 0 := fun z => hF0 (by rw [eF, hg10 z]; grind)
          refine Or.inl ⟨hz1, _, x, y1, zV_eq hvf5 (fun i hi => f6 _ (by omega) (by omega)), hx, hy1, l3, ex, ey, ⟨mp_C ca (mp_C cu y) * g1, by rw [eF]; grind⟩, ?_⟩
          rw [l4, eF, mp_sz_Cmul HA (mp_dom HU (mp_Fd_nz mp_FP)) hc0, (hgs hg0).2.2]
        · refine Or.inr ⟨hz0, fun hg => ⟨kk, (hgz hg).2, fun fx e1 e2 e3 => ?_⟩⟩
          have efx := hfx hg fx e1
          rw [← eF] at efx
          rw [efx] at e2 e3
          obtain ⟨x, ex⟩ := e2
          obtain ⟨y1, ey⟩ := e3
          have hF0 : F ≠ 0 := fun z => ha (by rw [ex, z]; grind)
          obtain ⟨l1, l2, l3, l4, l5⟩ := zd_lclc HU HA hF0
          rw [← hyd] at l1 l5
          refine hno (mp_C ca (mp_C cu (mp_lc cu (mp_lc ca F))) * x) (mp_C ca (mp_C cu (mp_lc cu (mp_lc ca F))) * y1) (mp_nz_mul hAd (mp_C_ne HA (mp_C_ne HU l1)) hF0) ?_ ?_
          · rw [ex]; grind
          · rw [ey]; grind
      | succ n ih =>
        intro i P3 S3 F h1 h2 h3 h4 h5 h6
        have hg0 : g ≠ 0 := fun z => by rw [(mp_sz_0 HA).mpr z] at h2; omega
        obtain ⟨hkk0, -⟩ := hgz hg0
        obtain ⟨hg1, hgx, hgsz⟩ := hgs hg0
        have hrow := mp_xz_row HU HA g1 i.toNat
        have hvg3 : zV ca P3 12 g := zV_eq hvg1 (fun i hi => h6 _ (by omega) (by omega) (by omega))
        have k1873 : P3 187 = kk := by rw [h6 _ (by omega) (by omega) (by omega), k187]
        have k1843 : P3 184 = cc := by rw [h6 _ (by omega) (by omega) (by omega), k184]
        refine z_iload X 0 rfl dX0_tryPieced_69 ?_
        refine z_if_lt X (tgt := 132) (by omega) dX0_tryPieced_71 (by decide) (fun hb71 => absurd hb71 (by omega)) (fun hb71 => ?_)
        refine z_aload_n X 2 rfl rfl dX0_tryPieced_74 ?_
        refine z_get X zinX0 2 (by omega) gC_D (ci := 2) rfl 11 (by decide) (ref := "TowerFields$Divisor") zw77 rfl rfl dX0_tryPieced_75 ?_
        refine z_aload_n X 2 rfl rfl dX0_tryPieced_78 ?_
        refine z_get X zinX0 2 (by omega) gC_D (ci := 2) rfl 3 (by decide) (ref := "TowerFields$Divisor") zw69 rfl rfl dX0_tryPieced_79 ?_
        refine z_iload X 0 rfl dX0_tryPieced_82 ?_
        refine z_callVr X zm_X2_row zw113 zw114 zw473 (zFit_of (by decide) (by decide)) [.int (iZ (i))] (c_X2_row l S3 (q := 12) (by omega) (i := i) (by omega)) rfl rfl (Nat.le_of_ble_eq_true rfl) (by omega) (gC_P (by omega)) (q := vwCl[4]) rfl rfl dX0_tryPieced_84 (fun j _ hz => ?_)
        have hj := zr_row hz (by omega) (by omega)
        subst hj
        refine z_callVv X zm_X1_copyOf zw437 zw438 zw480 (zFit_of (by decide) (by decide)) [.ref (ad (13 * 12 + (i).toNat + 31))] (c_X1_copyOf HU l h3 (k := 190) (k2 := 13 * 12 + (i).toNat) (by omega) (by omega) (by omega)) rfl rfl (Nat.le_of_ble_eq_true rfl) (by omega) (gC_L (by omega)) (q := vwCl[3]) rfl rfl dX0_tryPieced_87 (fun S4 R4 => ?_)
        refine z_aload_n X 2 rfl rfl dX0_tryPieced_90 ?_
        refine z_get X zinX0 2 (by omega) gC_D (ci := 2) rfl 11 (by decide) (ref := "TowerFields$Divisor") zw77 rfl rfl dX0_tryPieced_91 ?_
        refine z_aload_n X 2 rfl rfl dX0_tryPieced_94 ?_
        refine z_get X zinX0 2 (by omega) gC_D (ci := 2) rfl 8 (by decide) (ref := "TowerFields$Divisor") zw74 rfl rfl dX0_tryPieced_95 ?_
        refine z_aload_n X 2 rfl rfl dX0_tryPieced_98 ?_
        refine z_get X zinX0 2 (by omega) gC_D (ci := 2) rfl 13 (by decide) (ref := "TowerFields$Divisor") zw79 rfl rfl dX0_tryPieced_99 ?_
        refine z_callVv X zm_X1_divideBy zw475 zw476 zw474 (zFit_of (by decide) (by decide)) [.ref (ad (187 + 31)), .ref (ad (192 + 31))] (c_X1_divideBy HU l R4 (k := 190) (o := 187) (u := 192) (by omega) (by omega) (by omega) (by omega) (by omega) (by omega)) rfl rfl (Nat.le_of_ble_eq_true rfl) (by omega) (gC_L (by omega)) (q := vwCl[3]) rfl rfl dX0_tryPieced_102 (fun S5 hu5 => ?_)
        obtain ⟨x, rr, d1, d2, -, R5⟩ := hu5
        rw [va_up_self, va_up_ne _ _ (by omega : (187 : Nat) ≠ 190), k1873, hvg3.1 _ (by omega), eg, mp_C_mul HA] at d1
        rw [va_up_ne _ _ (by omega : (187 : Nat) ≠ 190), k1873] at d2
        obtain ⟨hx, -⟩ := zd_uni HU hkk0 (d1.symm.trans (by clear ih; grind : kk * ca g1 i.toNat = ca g1 i.toNat * kk)) (d2 hkk0)
        obtain ⟨P5, hP5⟩ : ∃ P5, P5 = va_up (va_up (va_up P3 190 (P3 (13 * 12 + i.toNat))) 192 x) 190 rr := ⟨_, rfl⟩
        rw [← hP5] at R5
        have k192 : P5 192 = x := by rw [hP5, va_up_ne _ _ (by omega), va_up_self]
        have f5 : ∀ j, j ≠ 190 → j ≠ 192 → P5 j = P3 j := fun j j1 j2 => by rw [hP5, va_up_ne _ _ j1, va_up_ne _ _ j2, va_up_ne _ _ j1]
        have hvF5 : zV ca P5 9 F := zV_eq h4 (fun i hi => f5 _ (by omega) (by omega))
        refine z_aload_n X 2 rfl rfl dX0_tryPieced_105 ?_
        refine z_get X zinX0 2 (by omega) gC_D (ci := 2) rfl 0 (by decide) (ref := "TowerFields$Divisor") zw63 rfl rfl dX0_tryPieced_106 ?_
        refine z_iload X 0 rfl dX0_tryPieced_109 ?_
        refine z_callVr X zm_X2_row zw113 zw114 zw473 (zFit_of (by decide) (by decide)) [.int (iZ (i))] (c_X2_row l S5 (q := 9) (by omega) (i := i) (by omega)) rfl rfl (Nat.le_of_ble_eq_true rfl) (by omega) (gC_P (by omega)) (q := vwCl[4]) rfl rfl dX0_tryPieced_111 (fun j _ hz => ?_)
        have hj := zr_row hz (by omega) (by omega)
        subst hj
        refine z_aload_n X 2 rfl rfl dX0_tryPieced_114 ?_
        refine z_get X zinX0 2 (by omega) gC_D (ci := 2) rfl 13 (by decide) (ref := "TowerFields$Divisor") zw79 rfl rfl dX0_tryPieced_115 ?_
        refine z_aload_n X 2 rfl rfl dX0_tryPieced_118 ?_
        refine z_get X zinX0 2 (by omega) gC_D (ci := 2) rfl 5 (by decide) (ref := "TowerFields$Divisor") zw71 rfl rfl dX0_tryPieced_119 ?_
        refine z_iconst X (n := 1) dX0_tryPieced_122 ?_
        refine z_eqi (b := vz (1 : FP)) rfl ?_
        refine z_callVv X zm_X1_plusProduct zw406 zw407 zw481 (zFit_of (by decide) (by decide)) [.ref (ad (192 + 31)), .ref (ad (184 + 31)), .int (iZ (vz (1 : FP)))] (c_X1_plusProduct HU l R5 (k := 13 * 9 + (i).toNat) (a := 192) (b := 184) (by omega) (by omega) (by omega) (by omega) (by omega) 1 (by rw [k192, f5 184 (by omega) (by omega), k1843, hx]; omega)) rfl rfl (Nat.le_of_ble_eq_true rfl) (by omega) (gC_L (by omega)) (q := vwCl[3]) rfl rfl dX0_tryPieced_123 (fun S6 R6 => ?_)
        rw [k192, f5 184 (by omega) (by omega), k1843] at R6
        refine z_iinc X [(4, .int (iZ (i + -1))), (3, .int (iZ (rch))), (0, .ref (ad 2)), (1, .ref (ad (q1 + 3))), (2, .ref (ad (q2 + 3)))] 0 rfl rfl (by decide) dX0_tryPieced_126 ?_
        refine z_goto X (tgt := 69) dX0_tryPieced_129 (by decide) ?_
        refine ih (i + -1) _ S6 (F + mp_m ca (x * cc) i.toNat) (by omega) (by omega) R6 (zV_put HA hvF5 (by omega) (x * cc) (by rw [hvF5.1 _ (by omega), mp_C_1 HU]; clear ih; grind)) (fun j => ?_) (fun j j1 j2 j3 => by rw [va_up_ne _ _ (by omega), f5 j j2 j3]; exact h6 j j1 j2 j3)
        rw [mp_add HA, h5 j, mp_m_cf HA]
        by_cases e1 : j = i.toNat
        · rw [if_neg (by omega), if_pos e1, if_pos (by omega), hx, e1]; clear ih; grind
        · by_cases e2 : i < j
          · rw [if_pos e2, if_neg e1, if_pos (by omega)]; clear ih; grind
          · rw [if_neg e2, if_neg e1, if_neg (by omega)]; clear ih; grind
    refine loop (mp_sz ca g) ((mp_sz ca g : Int) - 1) P2 S2 0 (by omega) (by omega) R2 hv9 (fun j => ?_) (fun j j1 _ _ => f2 j j1)
    rw [mp_zero HA]
    by_cases hj : ((mp_sz ca g : Int) - 1) < j
    · rw [if_pos hj]
      by_cases hg0 : g = 0
      · rw [hg10 hg0, mp_zero HA]; grind
      · rw [mp_sz_out HA (by have := (hgs hg0).2.2; omega)]; grind
    · rw [if_neg hj]
  · refine z_iconst X (n := 0) dX0_tryPieced_51 ?_
    refine E S1 (by omega) ⟨P1, R1, fun j hj => f1 j (by omega) (by omega) (by omega), Or.inr ⟨rfl, fun hg => ⟨kk, (hgz hg).2, fun fx e1 h1 h2 => ?_⟩⟩⟩ rfl dX0_tryPieced_52
    obtain ⟨g2, g3, -⟩ := hgs hg
    rw [hfx hg fx e1] at h1 h2
    have e2 := mp_xz_mul mp_FP HU HA (mp_C_ne HA hc0) g2
    rw [mp_xz_C HU HA] at e2
    have h3 : mp_xz cu ca (mp_C ca cc * g1) ≤ mp_xz cu ca a := mp_D_sz (mp_sw_P HU HA) (mp_dom HU (mp_Fd_nz mp_FP)) h1 ha
    have h4 : mp_xz cu ca (mp_C ca cc * g1) ≤ mp_xz cu ca b := mp_D_sz (mp_sw_P HU HA) (mp_dom HU (mp_Fd_nz mp_FP)) h2 hb
    omega
