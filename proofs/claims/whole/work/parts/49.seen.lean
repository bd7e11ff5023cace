section
variable {U V : Type}
/-- lowest terms, the head below 1 -/
def zNf [Lean.Grind.CommRing U] [Lean.Grind.CommRing V] (cu : U → Nat → FP) (ca : V → Nat → U) (p q : V) : Prop := mp_Cp p q ∧ mp_lc cu (mp_lc ca q) = 1
def zLow [Lean.Grind.CommRing U] [Lean.Grind.CommRing V] (cu : U → Nat → FP) (ca : V → Nat → U) (x y p q : V) : Prop := ∃ g, x = g * p ∧ y = g * q ∧ mp_Cp p q ∧ mp_lc cu (mp_lc ca q) = 1
def zFits [Lean.Grind.CommRing U] [Lean.Grind.CommRing V] (cu : U → Nat → FP) (ca : V → Nat → U) (p q : V) : Prop := (mp_sz ca p ≤ 7 ∧ mp_xz cu ca p ≤ 7) ∧ (mp_sz ca q ≤ 7 ∧ mp_xz cu ca q ≤ 7)
/-- the class, with these elements, so many made, t's kind, the derivation of t -/
def zC [Lean.Grind.CommRing U] [Lean.Grind.CommRing V] (cu : U → Nat → FP) (ca : V → Nat → U) (EL : Int → V × V) (md kd : Int) (sA sB : U) (S : zS) : Prop := ∃ (P : Nat → U) (T : zRest), zR cu P T S ∧ zEls cu ca T EL ∧ T.2.1 = md ∧ T.2.2 = kd ∧ P 182 = sA ∧ P 183 = sB ∧ zV ca P 8 (1 : V) ∧ (∀ n, 0 ≤ n → n < md → zNf cu ca (EL n).1 (EL n).2) ∧ mp_sz cu sA ≤ 13 ∧ mp_sz cu sB ≤ 13 ∧ (0 ≤ kd ∧ kd ≤ 2)
def zUp (EL : Int → V × V) (md : Int) (x : V × V) : Int → V × V := fun n => if n = md then x else EL n
theorem zUp_s (EL : Int → V × V) (md : Int) (x : V × V) : zUp EL md x md = x := if_pos rfl
theorem zUp_n (EL : Int → V × V) {md n : Int} (x : V × V) (h : n ≠ md) : zUp EL md x n = EL n := if_neg h
theorem zC_same [Lean.Grind.CommRing U] [Lean.Grind.CommRing V] {cu : U → Nat → FP} {ca : V → Nat → U} {EL : Int → V × V} {md kd : Int} {sA sB : U} {P P9 : Nat → U} {T : zRest} {u : zS} (h : zEls cu ca T EL ∧ T.2.1 = md ∧ T.2.2 = kd ∧ P 182 = sA ∧ P 183 = sB ∧ zV ca P 8 (1 : V) ∧ (∀ n, 0 ≤ n → n < md → zNf cu ca (EL n).1 (EL n).2) ∧ mp_sz cu sA ≤ 13 ∧ mp_sz cu sB ≤ 13 ∧ (0 ≤ kd ∧ kd ≤ 2)) (hR : zR cu P9 T u) (hf : ∀ j, (104 ≤ j ∧ j < 117) ∨ j = 182 ∨ j = 183 → P9 j = P j) : zC cu ca EL md kd sA sB u := by
  obtain ⟨h1, h2, h3, h4, h5, h6, h7⟩ := h
  exact ⟨P9, T, hR, h1, h2, h3, by rw [hf _ (by omega), h4], by rw [hf _ (by omega), h5], zV_eq h6 (fun i hi => hf _ (by omega)), h7⟩
theorem zB_cong [Lean.Grind.CommRing U] [Lean.Grind.CommRing V] {cu : U → Nat → FP} {ca : V → Nat → U} {f f9 : Nat → FP} {n : Nat} {a : V} (h : zB cu ca f n a) (e : ∀ z, n ≤ z → z < n + 49 → f9 z = f z) : zB cu ca f9 n a := ⟨fun i j hi hj => by rw [e _ (by omega) (by omega)]; exact h.1 i j hi hj, h.2⟩
theorem zC_add [Lean.Grind.CommRing U] [Lean.Grind.CommRing V] {cu : U → Nat → FP} {ca : V → Nat → U} {EL : Int → V × V} {md kd : Int} {sA sB : U} {P P9 : Nat → U} {T : zRest} {u : zS} (h : zEls cu ca T EL ∧ T.2.1 = md ∧ T.2.2 = kd ∧ P 182 = sA ∧ P 183 = sB ∧ zV ca P 8 (1 : V) ∧ (∀ n, 0 ≤ n → n < md → zNf cu ca (EL n).1 (EL n).2) ∧ mp_sz cu sA ≤ 13 ∧ mp_sz cu sB ≤ 13 ∧ (0 ≤ kd ∧ kd ≤ 2)) {f9 : Nat → FP} {p q : V} (hR : zR cu P9 (f9, T.2.1 + 1, T.2.2) u) (hlt : T.2.1 < 120) (hold : ∀ z : Nat, z < 98 * T.2.1 → f9 z = T.1 z) (hnew : zEl cu ca f9 T.2.1 p q) (hnf : zNf cu ca p q) (hf : ∀ j, (104 ≤ j ∧ j < 117) ∨ j = 182 ∨ j = 183 → P9 j = P j) : zC cu ca (zUp EL md (p, q)) (md + 1) kd sA sB u := by
  obtain ⟨⟨h1, h1b, h1c⟩, h2, h3, h4, h5, h6, h7, h8⟩ := h
  subst h2
  refine ⟨P9, (f9, T.2.1 + 1, T.2.2), hR, ⟨by show 0 ≤ T.2.1 + 1; omega, by show T.2.1 + 1 ≤ 120; omega, fun n n0 n1 => ?_⟩, rfl, h3, by rw [hf _ (by omega), h4], by rw [hf _ (by omega), h5], zV_eq h6 (fun i hi => hf _ (by omega)), fun n n0 n1 => ?_, h8⟩
  · have n1' : n < T.2.1 + 1 := n1
    by_cases e : n = T.2.1
    · rw [e, zUp_s]
      exact hnew
    · rw [zUp_n EL _ e]
      obtain ⟨g1, g2⟩ := h1c n n0 (by omega)
      exact ⟨zB_cong g1 (fun z z0 z1 => hold z (by omega)), zB_cong g2 (fun z z0 z1 => hold z (by omega))⟩
  · by_cases e : n = T.2.1
    · rw [e, zUp_s]; exact hnf
    · rw [zUp_n EL _ e]; exact h7 n n0 (by omega)
theorem zNf_ne [Lean.Grind.CommRing U] [Lean.Grind.CommRing V] {cu : U → Nat → FP} {ca : V → Nat → U} (HU : mp_P cu) (HA : mp_P ca) {p q : V} (h : zNf cu ca p q) : q ≠ 0 := fun e => by
  have h1 := h.2
  rw [e, show mp_lc ca (0 : V) = 0 from mp_zero HA _, show mp_lc cu (0 : U) = 0 from mp_zero HU _] at h1
  exact mp_FP.2 h1.symm
theorem zNf_one [Lean.Grind.CommRing U] [Lean.Grind.CommRing V] {cu : U → Nat → FP} {ca : V → Nat → U} (HU : mp_P cu) (HA : mp_P ca) (p : V) : zNf cu ca p 1 := by
  refine ⟨fun d _ h => mp_U_of_D h mp_U_1, ?_⟩
  have h1 : mp_lc ca (1 : V) = 1 := by
    rw [← mp_C_1 HA, mp_lc, mp_sz_CE HA (mp_dom HU (mp_Fd_nz mp_FP)).2, mp_C_cf HA]; rfl
  rw [h1, ← mp_C_1 HU, mp_lc, mp_sz_CE HU mp_FP.2, mp_C_cf HU]; rfl
end
set_option maxHeartbeats 8000000 in
set_option maxRecDepth 100000 in
theorem c_X3_base {U V : Type} [Lean.Grind.CommRing U] [Lean.Grind.CommRing V] {cu : U → Nat → FP} {ca : V → Nat → U} (HU : mp_P cu) (HA : mp_P ca) (l : Launch) (hl9 : l.stackTraces = false) {D : va_G} {ad sa : Nat → Nat} {cI cO : ClassId} {EL : Int → V × V} {md kd : Int} {sA sB : U} {S : zS} (hC : zC cu ca EL md kd sA sB S) : zTi l yX3_base cX3_base 1 (some .int) 8 1 D (zTy cI cO) 419 ad sa [.ref (ad 0)] (gC ad cI cO S) (gC ad cI cO) (fun z u => z = md ∧ md < 120 ∧ zC cu ca (zUp EL md (mp_m ca (mp_m cu 1 1) 0, 1)) (md + 1) kd sA sB u) (fun E u => zC cu ca EL md kd sA sB u ∧ E = "java/lang/IllegalStateException" ∧ ¬ md < 120) := by
  obtain ⟨P, T, hR, hEL, hmd, hkd, h182, h183, hone, hnf, hsA, hsB, hkb⟩ := hC
  have hrec := And.intro hEL (And.intro hmd (And.intro hkd (And.intro h182 (And.intro h183 (And.intro hone (And.intro hnf (And.intro hsA (And.intro hsB hkb))))))))
  have hC0 : zC cu ca EL md kd sA sB S := ⟨P, T, hR, hEL, hmd, hkd, h182, h183, hone, hnf, hsA, hsB, hkb⟩
  have hm0 := hEL.1
  have hm1 := hEL.2.1
  have hS1 : S.2.2.2.2.1 = T.2.1 := by rw [hR.2.2.2.2.2]
  have hS2 : S.2.2.2.2.2 = T.2.2 := by rw [hR.2.2.2.2.2]
  refine z_goti zm_X3_base (Nat.le_of_ble_eq_true rfl) [(0, .ref (ad 0))] rfl (fun p e s m args below meth c A X XX ht E => ?_)
  refine z_aload_n X 0 rfl rfl dX3_base_0 ?_
  refine z_callVvT X XX ht zm_X3_requireRoom zw253 zp1 zw251 (zFitX_of (by decide) (by decide) (by decide) (by decide)) [] (c_X3_requireRoom l hl9 S hS1 ⟨hm0, hm1⟩) rfl rfl (Nat.le_of_ble_eq_true rfl) (by omega) gC_T (q := vwCl[5]) rfl rfl dX3_base_1 (fun E _ h => ⟨S, ⟨hC0, h.1, hmd ▸ h.2⟩, rfl⟩) (by decide) (by decide) (fun u hroom => ?_)
  refine z_aload_n X 0 rfl rfl dX3_base_4 ?_
  refine z_iconst X (n := 0) dX3_base_5 ?_
  refine z_iconst X (n := 1) dX3_base_6 ?_
  refine z_iconst X (n := 1) dX3_base_7 ?_
  refine z_eqi (b := vz (1 : FP)) rfl ?_
  refine z_callVi X zm_X3_keepSingle zw283 zp2 zw281 (zFitN_of (by decide) (by decide) (by decide) (by decide)) [.int (iZ (0)), .int (iZ (1)), .int (iZ (vz (1 : FP)))] (c_X3_keepSingle HU HA l hR (i := 0) (j := 1) (by omega) (by omega) 1 hone hm0 hroom) rfl rfl (Nat.le_of_ble_eq_true rfl) (by omega) gC_T (q := vwCl[5]) rfl rfl dX3_base_8 (fun z S1 hu1 => ?_)
  obtain ⟨hz, P1, f1, R1, g1, g2, g3⟩ := hu1
  subst hz
  exact E S1 (by decide) (by decide) ⟨hmd, hmd ▸ hroom, zC_add hrec R1 hroom g1 g2 (zNf_one HU HA _) (fun j hj => g3 j (by omega))⟩ rfl dX3_base_11
set_option maxHeartbeats 8000000 in
set_option maxRecDepth 100000 in
theorem c_X3_top {U V : Type} [Lean.Grind.CommRing U] [Lean.Grind.CommRing V] {cu : U → Nat → FP} {ca : V → Nat → U} (HU : mp_P cu) (HA : mp_P ca) (l : Launch) (hl9 : l.stackTraces = false) {D : va_G} {ad sa : Nat → Nat} {cI cO : ClassId} {EL : Int → V × V} {md kd : Int} {sA sB : U} {S : zS} (hC : zC cu ca EL md kd sA sB S) : zTi l yX3_top cX3_top 1 (some .int) 8 2 D (zTy cI cO) 419 ad sa [.ref (ad 0)] (gC ad cI cO S) (gC ad cI cO) (fun z u => z = md ∧ md < 120 ∧ zC cu ca (zUp EL md (mp_m ca (mp_m cu 1 0) 1, 1)) (md + 1) kd sA sB u ∧ kd ≠ 0) (fun E u => zC cu ca EL md kd sA sB u ∧ ((E = "java/lang/IllegalStateException" ∧ ¬ md < 120) ∨ (E = "java/lang/IllegalArgumentException" ∧ md < 120 ∧ kd = 0))) := by
  obtain ⟨P, T, hR, hEL, hmd, hkd, h182, h183, hone, hnf, hsA, hsB, hkb⟩ := hC
  have hrec := And.intro hEL (And.intro hmd (And.intro hkd (And.intro h182 (And.intro h183 (And.intro hone (And.intro hnf (And.intro hsA (And.intro hsB hkb))))))))
  have hC0 : zC cu ca EL md kd sA sB S := ⟨P, T, hR, hEL, hmd, hkd, h182, h183, hone, hnf, hsA, hsB, hkb⟩
  have hm0 := hEL.1
  have hm1 := hEL.2.1
  have hS1 : S.2.2.2.2.1 = T.2.1 := by rw [hR.2.2.2.2.2]
  have hS2 : S.2.2.2.2.2 = T.2.2 := by rw [hR.2.2.2.2.2]
  refine z_goti zm_X3_top (Nat.le_of_ble_eq_true rfl) [(0, .ref (ad 0))] rfl (fun p e s m args below meth c A X XX ht E => ?_)
  refine z_aload_n X 0 rfl rfl dX3_top_0 ?_
  refine z_callVvT X XX ht zm_X3_requireRoom zw253 zp1 zw251 (zFitX_of (by decide) (by decide) (by decide) (by decide)) [] (c_X3_requireRoom l hl9 S hS1 ⟨hm0, hm1⟩) rfl rfl (Nat.le_of_ble_eq_true rfl) (by omega) gC_T (q := vwCl[5]) rfl rfl dX3_top_1 (fun E _ h => ⟨S, ⟨hC0, Or.inl ⟨h.1, hmd ▸ h.2⟩⟩, rfl⟩) (by decide) (by decide) (fun u hroom => ?_)
  refine z_aload_n X 0 rfl rfl dX3_top_4 ?_
  refine z_get X zinX3 0 (by omega) gC_T (ci := 5) rfl 2 (by decide) (ref := "TowerFields") zw122 rfl rfl dX3_top_5 ?_
  refine z_eqi (b := T.2.2) hS2 ?_
  refine z_if_ne X (tgt := 21) (by omega) dX3_top_8 (by decide) (fun hb8 => ?_) (fun hb8 => ?_)
  · refine z_aload_n X 0 rfl rfl dX3_top_21 ?_
    refine z_iconst X (n := 1) dX3_top_22 ?_
    refine z_iconst X (n := 0) dX3_top_23 ?_
    refine z_iconst X (n := 1) dX3_top_24 ?_
    refine z_eqi (b := vz (1 : FP)) rfl ?_
    refine z_callVi X zm_X3_keepSingle zw283 zp2 zw281 (zFitN_of (by decide) (by decide) (by decide) (by decide)) [.int (iZ (1)), .int (iZ (0)), .int (iZ (vz (1 : FP)))] (c_X3_keepSingle HU HA l hR (i := 1) (j := 0) (by omega) (by omega) 1 hone hm0 hroom) rfl rfl (Nat.le_of_ble_eq_true rfl) (by omega) gC_T (q := vwCl[5]) rfl rfl dX3_top_25 (fun z S1 hu1 => ?_)
    obtain ⟨hz, P1, f1, R1, g1, g2, g3⟩ := hu1
    subst hz
    exact E S1 (by decide) (by decide) ⟨hmd, hmd ▸ hroom, zC_add hrec R1 hroom g1 g2 (zNf_one HU HA _) (fun j hj => g3 j (by omega)), by omega⟩ rfl dX3_top_28
  · exact z_throw X XX ht hl9 (ik := 102) (is := 118) (ic := 106) (cls := "java/lang/IllegalArgumentException") 6 rfl (by decide +kernel) zw359 zw14 zat_106 dX3_top_11 dX3_top_14 dX3_top_15 dX3_top_17 dX3_top_20 (by decide) (by decide) (by decide) (by decide) (by decide) (by decide) S (⟨hC0, Or.inr ⟨rfl, hmd ▸ hroom, by omega⟩⟩) (rfl)
set_option maxHeartbeats 8000000 in
set_option maxRecDepth 100000 in
theorem c_X3_add {U V : Type} [Lean.Grind.CommRing U] [Lean.Grind.CommRing V] {cu : U → Nat → FP} {ca : V → Nat → U} (HU : mp_P cu) (HA : mp_P ca) (l : Launch) (hl9 : l.stackTraces = false) {D : va_G} {ad sa : Nat → Nat} {cI cO : ClassId} {EL : Int → V × V} {md kd : Int} {sA sB : U} {S : zS} (hC : zC cu ca EL md kd sA sB S) {n1 n2 : Int} (hn1 : -2147483648 ≤ n1 ∧ n1 < 2147483648) (hn2 : -2147483648 ≤ n2 ∧ n2 < 2147483648) : zTi l yX3_add cX3_add 3 (some .int) 8 4 D (zTy cI cO) 419 ad sa [.ref (ad 0), .int (iZ n1), .int (iZ n2)] (gC ad cI cO S) (gC ad cI cO) (fun z u => (0 ≤ n1 ∧ n1 < md) ∧ (0 ≤ n2 ∧ n2 < md) ∧ md < 120 ∧ z = md ∧ ∃ p q, zC cu ca (zUp EL md (p, q)) (md + 1) kd sA sB u ∧ zLow cu ca ((EL n1).1 * (EL n2).2 + mp_C ca (mp_C cu 1) * (EL n2).1 * (EL n1).2) ((EL n1).2 * (EL n2).2) p q) (fun E u => zC cu ca EL md kd sA sB u ∧ ((E = "java/lang/IndexOutOfBoundsException" ∧ ¬ ((0 ≤ n1 ∧ n1 < md) ∧ (0 ≤ n2 ∧ n2 < md))) ∨ (E = "java/lang/IllegalStateException" ∧ ((0 ≤ n1 ∧ n1 < md) ∧ (0 ≤ n2 ∧ n2 < md)) ∧ ¬ md < 120) ∨ (E = "java/lang/IllegalStateException" ∧ ((0 ≤ n1 ∧ n1 < md) ∧ (0 ≤ n2 ∧ n2 < md)) ∧ md < 120 ∧ ∃ p q, zLow cu ca ((EL n1).1 * (EL n2).2 + mp_C ca (mp_C cu 1) * (EL n2).1 * (EL n1).2) ((EL n1).2 * (EL n2).2) p q ∧ ¬ zFits cu ca p q))) := by
  obtain ⟨P, T, hR, hEL, hmd, hkd, h182, h183, hone, hnf, hsA, hsB, hkb⟩ := hC
  have hrec := And.intro hEL (And.intro hmd (And.intro hkd (And.intro h182 (And.intro h183 (And.intro hone (And.intro hnf (And.intro hsA (And.intro hsB hkb))))))))
  have hC0 : zC cu ca EL md kd sA sB S := ⟨P, T, hR, hEL, hmd, hkd, h182, h183, hone, hnf, hsA, hsB, hkb⟩
  have hm0 := hEL.1
  have hm1 := hEL.2.1
  have hS1 : S.2.2.2.2.1 = T.2.1 := by rw [hR.2.2.2.2.2]
  have hS2 : S.2.2.2.2.2 = T.2.2 := by rw [hR.2.2.2.2.2]
  refine z_goti zm_X3_add (Nat.le_of_ble_eq_true rfl) [(0, .ref (ad 0)), (1, .int (iZ (n1))), (2, .int (iZ (n2)))] rfl (fun p e s m args below meth c A X XX ht E => ?_)
  refine z_aload_n X 0 rfl rfl dX3_add_0 ?_
  refine z_iload_n X 1 rfl rfl dX3_add_1 ?_
  refine z_iload_n X 2 rfl rfl dX3_add_2 ?_
  refine z_callVvT X XX ht zm_X3_takeTwo zw552 zp21 zw550 (zFitX_of (by decide) (by decide) (by decide) (by decide)) [.int (iZ (n1)), .int (iZ (n2))] (c_X3_takeTwo HU HA l hl9 hR hEL hn1 hn2) rfl rfl (Nat.le_of_ble_eq_true rfl) (by omega) gC_T (q := vwCl[5]) rfl rfl dX3_add_3 (fun E u h => ⟨u, ⟨by rw [h.1]; exact hC0, h.2.elim (fun q => Or.inl ⟨q.1, fun q9 => q.2 ⟨⟨q9.1.1, by have := q9.1.2; omega⟩, ⟨q9.2.1, by have := q9.2.2; omega⟩⟩⟩) (fun q => Or.inr (Or.inl ⟨q.1, ⟨⟨q.2.1.1, by have := q.2.1.2; omega⟩, ⟨q.2.2.1.1, by have := q.2.2.1.2; omega⟩⟩, by have := q.2.2.2; omega⟩))⟩, rfl⟩) (by decide) (by decide) (fun S1 hu1 => ?_)
  obtain ⟨hd1, hd2, hroom, P1, R1, v0, v1, v2, v3, f1⟩ := hu1
  obtain ⟨hBa, hBb⟩ := hEL.2.2 n1 hd1.1 hd1.2
  obtain ⟨hBc, hBd⟩ := hEL.2.2 n2 hd2.1 hd2.2
  have zba : zb cu ca 7 (EL n1).1 := hBa.2
  have zbb : zb cu ca 7 (EL n1).2 := hBb.2
  have zbc : zb cu ca 7 (EL n2).1 := hBc.2
  have zbd : zb cu ca 7 (EL n2).2 := hBd.2
  have hAd := mp_dom HA (mp_dom HU (mp_Fd_nz mp_FP))
  have nb := zNf_ne HU HA (hnf n1 hd1.1 (by have := hd1.2; omega))
  have nd := zNf_ne HU HA (hnf n2 hd2.1 (by have := hd2.2; omega))
  have e1 : 0 ≤ n1 ∧ n1 < md := ⟨hd1.1, by have := hd1.2; omega⟩
  have e2 : 0 ≤ n2 ∧ n2 < md := ⟨hd2.1, by have := hd2.2; omega⟩
  refine z_aload_n X 0 rfl rfl dX3_add_6 ?_
  refine z_iconst X (n := 1) dX3_add_7 ?_
  refine z_eqi (b := vz (1 : FP)) rfl ?_
  refine z_callVv X zm_X3_sumUp zw556 zp22 zw554 (zFitN_of (by decide) (by decide) (by decide) (by decide)) [.int (iZ (vz (1 : FP)))] (c_X3_sumUp HU HA l R1 v0 v1 v2 v3 zba zbb zbc zbd 1) rfl rfl (Nat.le_of_ble_eq_true rfl) (by omega) gC_T (q := vwCl[5]) rfl rfl dX3_add_8 (fun S2 hu2 => ?_)
  obtain ⟨P2, R2, w6, w7, f2⟩ := hu2
  have ma := zb_mul HU HA (m := 6) (n := 6) zba zbd
  have mc := zb_CC HU HA (zb_mul HU HA (m := 6) (n := 6) zbc zbb) 1
  have mb := zb_mul HU HA (m := 6) (n := 6) zbb zbd
  rw [show mp_C ca (mp_C cu 1) * ((EL n2).1 * (EL n1).2) = mp_C ca (mp_C cu 1) * (EL n2).1 * (EL n1).2 by grind] at mc
  have ms := zb_add HU HA ma mc
  refine z_aload_n X 0 rfl rfl dX3_add_11 ?_
  refine z_callViT X XX ht zm_X3_keepLowest zw560 zp23 zw558 (zFitX_of (by decide) (by decide) (by decide) (by decide)) [] (c_X3_keepLowest HU HA l hl9 R2 w6 w7 (mp_nz_mul hAd nb nd) (by omega) (by omega) hm0 hroom) rfl rfl (Nat.le_of_ble_eq_true rfl) (by omega) gC_T (q := vwCl[5]) rfl rfl dX3_add_12 (fun E u h => by obtain ⟨q0, P8, pp8, qq8, q1, q2, q3, q4⟩ := h; exact ⟨u, ⟨zC_same hrec q1 (fun j hj => by rw [q2 j (by omega), f2 j (by omega), f1 j (by omega)]), Or.inr (Or.inr ⟨q0, ⟨e1, e2⟩, by omega, pp8, qq8, q3, q4⟩)⟩, rfl⟩) (by decide) (by decide) (fun z S9 hu9 => ?_)
  obtain ⟨hz, P9, f9, pp9, qq9, R9, g1, g2, g3, glow⟩ := hu9
  subst hz
  have gnf : zNf cu ca pp9 qq9 := by obtain ⟨_, _, _, q3, q4⟩ := glow; exact ⟨q3, q4⟩
  exact E S9 (by decide) (by decide) ⟨e1, e2, by omega, ⟨hmd, pp9, qq9, zC_add hrec R9 hroom g1 g2 gnf (fun j hj => by rw [g3 j (by omega), f2 j (by omega), f1 j (by omega)]), glow⟩⟩ rfl dX3_add_15
set_option maxHeartbeats 8000000 in
set_option maxRecDepth 100000 in
theorem c_X3_less {U V : Type} [Lean.Grind.CommRing U] [Lean.Grind.CommRing V] {cu : U → Nat → FP} {ca : V → Nat → U} (HU : mp_P cu) (HA : mp_P ca) (l : Launch) (hl9 : l.stackTraces = false) {D : va_G} {ad sa : Nat → Nat} {cI cO : ClassId} {EL : Int → V × V} {md kd : Int} {sA sB : U} {S : zS} (hC : zC cu ca EL md kd sA sB S) {n1 n2 : Int} (hn1 : -2147483648 ≤ n1 ∧ n1 < 2147483648) (hn2 : -2147483648 ≤ n2 ∧ n2 < 2147483648) : zTi l yX3_less cX3_less 3 (some .int) 8 4 D (zTy cI cO) 419 ad sa [.ref (ad 0), .int (iZ n1), .int (iZ n2)] (gC ad cI cO S) (gC ad cI cO) (fun z u => (0 ≤ n1 ∧ n1 < md) ∧ (0 ≤ n2 ∧ n2 < md) ∧ md < 120 ∧ z = md ∧ ∃ p q, zC cu ca (zUp EL md (p, q)) (md + 1) kd sA sB u ∧ zLow cu ca ((EL n1).1 * (EL n2).2 + mp_C ca (mp_C cu (-1)) * (EL n2).1 * (EL n1).2) ((EL n1).2 * (EL n2).2) p q) (fun E u => zC cu ca EL md kd sA sB u ∧ ((E = "java/lang/IndexOutOfBoundsException" ∧ ¬ ((0 ≤ n1 ∧ n1 < md) ∧ (0 ≤ n2 ∧ n2 < md))) ∨ (E = "java/lang/IllegalStateException" ∧ ((0 ≤ n1 ∧ n1 < md) ∧ (0 ≤ n2 ∧ n2 < md)) ∧ ¬ md < 120) ∨ (E = "java/lang/IllegalStateException" ∧ ((0 ≤ n1 ∧ n1 < md) ∧ (0 ≤ n2 ∧ n2 < md)) ∧ md < 120 ∧ ∃ p q, zLow cu ca ((EL n1).1 * (EL n2).2 + mp_C ca (mp_C cu (-1)) * (EL n2).1 * (EL n1).2) ((EL n1).2 * (EL n2).2) p q ∧ ¬ zFits cu ca p q))) := by
  obtain ⟨P, T, hR, hEL, hmd, hkd, h182, h183, hone, hnf, hsA, hsB, hkb⟩ := hC
  have hrec := And.intro hEL (And.intro hmd (And.intro hkd (And.intro h182 (And.intro h183 (And.intro hone (And.intro hnf (And.intro hsA (And.intro hsB hkb))))))))
  have hC0 : zC cu ca EL md kd sA sB S := ⟨P, T, hR, hEL, hmd, hkd, h182, h183, hone, hnf, hsA, hsB, hkb⟩
  have hm0 := hEL.1
  have hm1 := hEL.2.1
  have hS1 : S.2.2.2.2.1 = T.2.1 := by rw [hR.2.2.2.2.2]
  have hS2 : S.2.2.2.2.2 = T.2.2 := by rw [hR.2.2.2.2.2]
  refine z_goti zm_X3_less (Nat.le_of_ble_eq_true rfl) [(0, .ref (ad 0)), (1, .int (iZ (n1))), (2, .int (iZ (n2)))] rfl (fun p e s m args below meth c A X XX ht E => ?_)
  refine z_aload_n X 0 rfl rfl dX3_less_0 ?_
  refine z_iload_n X 1 rfl rfl dX3_less_1 ?_
  refine z_iload_n X 2 rfl rfl dX3_less_2 ?_
  refine z_callVvT X XX ht zm_X3_takeTwo zw552 zp21 zw550 (zFitX_of (by decide) (by decide) (by decide) (by decide)) [.int (iZ (n1)), .int (iZ (n2))] (c_X3_takeTwo HU HA l hl9 hR hEL hn1 hn2) rfl rfl (Nat.le_of_ble_eq_true rfl) (by omega) gC_T (q := vwCl[5]) rfl rfl dX3_less_3 (fun E u h => ⟨u, ⟨by rw [h.1]; exact hC0, h.2.elim (fun q => Or.inl ⟨q.1, fun q9 => q.2 ⟨⟨q9.1.1, by have := q9.1.2; omega⟩, ⟨q9.2.1, by have := q9.2.2; omega⟩⟩⟩) (fun q => Or.inr (Or.inl ⟨q.1, ⟨⟨q.2.1.1, by have := q.2.1.2; omega⟩, ⟨q.2.2.1.1, by have := q.2.2.1.2; omega⟩⟩, by have := q.2.2.2; omega⟩))⟩, rfl⟩) (by decide) (by decide) (fun S1 hu1 => ?_)
  obtain ⟨hd1, hd2, hroom, P1, R1, v0, v1, v2, v3, f1⟩ := hu1
  obtain ⟨hBa, hBb⟩ := hEL.2.2 n1 hd1.1 hd1.2
  obtain ⟨hBc, hBd⟩ := hEL.2.2 n2 hd2.1 hd2.2
  have zba : zb cu ca 7 (EL n1).1 := hBa.2
  have zbb : zb cu ca 7 (EL n1).2 := hBb.2
  have zbc : zb cu ca 7 (EL n2).1 := hBc.2
  have zbd : zb cu ca 7 (EL n2).2 := hBd.2
  have hAd := mp_dom HA (mp_dom HU (mp_Fd_nz mp_FP))
  have nb := zNf_ne HU HA (hnf n1 hd1.1 (by have := hd1.2; omega))
  have nd := zNf_ne HU HA (hnf n2 hd2.1 (by have := hd2.2; omega))
  have e1 : 0 ≤ n1 ∧ n1 < md := ⟨hd1.1, by have := hd1.2; omega⟩
  have e2 : 0 ≤ n2 ∧ n2 < md := ⟨hd2.1, by have := hd2.2; omega⟩
  refine z_aload_n X 0 rfl rfl dX3_less_6 ?_
  refine z_sipush X (n := 32002) (by decide) dX3_less_7 ?_
  refine z_eqi (b := vz ((-1) : FP)) rfl ?_
  refine z_callVv X zm_X3_sumUp zw556 zp22 zw554 (zFitN_of (by decide) (by decide) (by decide) (by decide)) [.int (iZ (vz ((-1) : FP)))] (c_X3_sumUp HU HA l R1 v0 v1 v2 v3 zba zbb zbc zbd (-1)) rfl rfl (Nat.le_of_ble_eq_true rfl) (by omega) gC_T (q := vwCl[5]) rfl rfl dX3_less_10 (fun S2 hu2 => ?_)
  obtain ⟨P2, R2, w6, w7, f2⟩ := hu2
  have ma := zb_mul HU HA (m := 6) (n := 6) zba zbd
  have mc := zb_CC HU HA (zb_mul HU HA (m := 6) (n := 6) zbc zbb) (-1)
  have mb := zb_mul HU HA (m := 6) (n := 6) zbb zbd
  rw [show mp_C ca (mp_C cu (-1)) * ((EL n2).1 * (EL n1).2) = mp_C ca (mp_C cu (-1)) * (EL n2).1 * (EL n1).2 by grind] at mc
  have ms := zb_add HU HA ma mc
  refine z_aload_n X 0 rfl rfl dX3_less_13 ?_
  refine z_callViT X XX ht zm_X3_keepLowest zw560 zp23 zw558 (zFitX_of (by decide) (by decide) (by decide) (by decide)) [] (c_X3_keepLowest HU HA l hl9 R2 w6 w7 (mp_nz_mul hAd nb nd) (by omega) (by omega) hm0 hroom) rfl rfl (Nat.le_of_ble_eq_true rfl) (by omega) gC_T (q := vwCl[5]) rfl rfl dX3_less_14 (fun E u h => by obtain ⟨q0, P8, pp8, qq8, q1, q2, q3, q4⟩ := h; exact ⟨u, ⟨zC_same hrec q1 (fun j hj => by rw [q2 j (by omega), f2 j (by omega), f1 j (by omega)]), Or.inr (Or.inr ⟨q0, ⟨e1, e2⟩, by omega, pp8, qq8, q3, q4⟩)⟩, rfl⟩) (by decide) (by decide) (fun z S9 hu9 => ?_)
  obtain ⟨hz, P9, f9, pp9, qq9, R9, g1, g2, g3, glow⟩ := hu9
  subst hz
  have gnf : zNf cu ca pp9 qq9 := by obtain ⟨_, _, _, q3, q4⟩ := glow; exact ⟨q3, q4⟩
  exact E S9 (by decide) (by decide) ⟨e1, e2, by omega, ⟨hmd, pp9, qq9, zC_add hrec R9 hroom g1 g2 gnf (fun j hj => by rw [g3 j (by omega), f2 j (by omega), f1 j (by omega)]), glow⟩⟩ rfl dX3_less_17
set_option maxHeartbeats 8000000 in
set_option maxRecDepth 100000 in
theorem c_X3_times {U V : Type} [Lean.Grind.CommRing U] [Lean.Grind.CommRing V] {cu : U → Nat → FP} {ca : V → Nat → U} (HU : mp_P cu) (HA : mp_P ca) (l : Launch) (hl9 : l.stackTraces = false) {D : va_G} {ad sa : Nat → Nat} {cI cO : ClassId} {EL : Int → V × V} {md kd : Int} {sA sB : U} {S : zS} (hC : zC cu ca EL md kd sA sB S) {n1 n2 : Int} (hn1 : -2147483648 ≤ n1 ∧ n1 < 2147483648) (hn2 : -2147483648 ≤ n2 ∧ n2 < 2147483648) : zTi l yX3_times cX3_times 3 (some .int) 8 4 D (zTy cI cO) 419 ad sa [.ref (ad 0), .int (iZ n1), .int (iZ n2)] (gC ad cI cO S) (gC ad cI cO) (fun z u => (0 ≤ n1 ∧ n1 < md) ∧ (0 ≤ n2 ∧ n2 < md) ∧ md < 120 ∧ z = md ∧ ∃ p q, zC cu ca (zUp EL md (p, q)) (md + 1) kd sA sB u ∧ zLow cu ca ((EL n1).1 * (EL n2).1) ((EL n1).2 * (EL n2).2) p q) (fun E u => zC cu ca EL md kd sA sB u ∧ ((E = "java/lang/IndexOutOfBoundsException" ∧ ¬ ((0 ≤ n1 ∧ n1 < md) ∧ (0 ≤ n2 ∧ n2 < md))) ∨ (E = "java/lang/IllegalStateException" ∧ ((0 ≤ n1 ∧ n1 < md) ∧ (0 ≤ n2 ∧ n2 < md)) ∧ ¬ md < 120) ∨ (E = "java/lang/IllegalStateException" ∧ ((0 ≤ n1 ∧ n1 < md) ∧ (0 ≤ n2 ∧ n2 < md)) ∧ md < 120 ∧ ∃ p q, zLow cu ca ((EL n1).1 * (EL n2).1) ((EL n1).2 * (EL n2).2) p q ∧ ¬ zFits cu ca p q))) := by
  obtain ⟨P, T, hR, hEL, hmd, hkd, h182, h183, hone, hnf, hsA, hsB, hkb⟩ := hC
  have hrec := And.intro hEL (And.intro hmd (And.intro hkd (And.intro h182 (And.intro h183 (And.intro hone (And.intro hnf (And.intro hsA (And.intro hsB hkb))))))))
  have hC0 : zC cu ca EL md kd sA sB S := ⟨P, T, hR, hEL, hmd, hkd, h182, h183, hone, hnf, hsA, hsB, hkb⟩
  have hm0 := hEL.1
  have hm1 := hEL.2.1
  have hS1 : S.2.2.2.2.1 = T.2.1 := by rw [hR.2.2.2.2.2]
  have hS2 : S.2.2.2.2.2 = T.2.2 := by rw [hR.2.2.2.2.2]
  refine z_goti zm_X3_times (Nat.le_of_ble_eq_true rfl) [(0, .ref (ad 0)), (1, .int (iZ (n1))), (2, .int (iZ (n2)))] rfl (fun p e s m args below meth c A X XX ht E => ?_)
  refine z_aload_n X 0 rfl rfl dX3_times_0 ?_
  refine z_iload_n X 1 rfl rfl dX3_times_1 ?_
  refine z_iload_n X 2 rfl rfl dX3_times_2 ?_
  refine z_callVvT X XX ht zm_X3_takeTwo zw552 zp21 zw550 (zFitX_of (by decide) (by decide) (by decide) (by decide)) [.int (iZ (n1)), .int (iZ (n2))] (c_X3_takeTwo HU HA l hl9 hR hEL hn1 hn2) rfl rfl (Nat.le_of_ble_eq_true rfl) (by omega) gC_T (q := vwCl[5]) rfl rfl dX3_times_3 (fun E u h => ⟨u, ⟨by rw [h.1]; exact hC0, h.2.elim (fun q => Or.inl ⟨q.1, fun q9 => q.2 ⟨⟨q9.1.1, by have := q9.1.2; omega⟩, ⟨q9.2.1, by have := q9.2.2; omega⟩⟩⟩) (fun q => Or.inr (Or.inl ⟨q.1, ⟨⟨q.2.1.1, by have := q.2.1.2; omega⟩, ⟨q.2.2.1.1, by have := q.2.2.1.2; omega⟩⟩, by have := q.2.2.2; omega⟩))⟩, rfl⟩) (by decide) (by decide) (fun S1 hu1 => ?_)
  obtain ⟨hd1, hd2, hroom, P1, R1, v0, v1, v2, v3, f1⟩ := hu1
  obtain ⟨hBa, hBb⟩ := hEL.2.2 n1 hd1.1 hd1.2
  obtain ⟨hBc, hBd⟩ := hEL.2.2 n2 hd2.1 hd2.2
  have zba : zb cu ca 7 (EL n1).1 := hBa.2
  have zbb : zb cu ca 7 (EL n1).2 := hBb.2
  have zbc : zb cu ca 7 (EL n2).1 := hBc.2
  have zbd : zb cu ca 7 (EL n2).2 := hBd.2
  have hAd := mp_dom HA (mp_dom HU (mp_Fd_nz mp_FP))
  have nb := zNf_ne HU HA (hnf n1 hd1.1 (by have := hd1.2; omega))
  have nd := zNf_ne HU HA (hnf n2 hd2.1 (by have := hd2.2; omega))
  have e1 : 0 ≤ n1 ∧ n1 < md := ⟨hd1.1, by have := hd1.2; omega⟩
  have e2 : 0 ≤ n2 ∧ n2 < md := ⟨hd2.1, by have := hd2.2; omega⟩
  refine z_aload_n X 0 rfl rfl dX3_times_6 ?_
  refine z_get X zinX3 0 (by omega) gC_T (ci := 5) rfl 11 (by decide) (ref := "TowerFields") zw131 rfl rfl dX3_times_7 ?_
  have m1 := zb_mul HU HA (m := 6) (n := 6) zba zbc
  have m2 := zb_mul HU HA (m := 6) (n := 6) zbb zbd
  refine z_callVv X zm_X2_clear zw286 zw287 zw285 (zFitN_of (by decide) (by decide) (by decide) (by decide)) [] (c_X2_clear HU l R1 (q := 6) (by omega)) rfl rfl (Nat.le_of_ble_eq_true rfl) (by omega) (gC_P (by omega)) (q := vwCl[4]) rfl rfl dX3_times_10 (fun S2 R2 => ?_)
  rw [pwn_zA HA] at R2
  obtain ⟨P2, eP2, vP2, kP2, fP2⟩ := zP_new ca P1 6 ((0 : V)) (zs0 HA)
  rw [← eP2] at R2
  refine z_aload_n X 0 rfl rfl dX3_times_13 ?_
  refine z_get X zinX3 0 (by omega) gC_T (ci := 5) rfl 11 (by decide) (ref := "TowerFields") zw131 rfl rfl dX3_times_14 ?_
  refine z_aload_n X 0 rfl rfl dX3_times_17 ?_
  refine z_get X zinX3 0 (by omega) gC_T (ci := 5) rfl 5 (by decide) (ref := "TowerFields") zw125 rfl rfl dX3_times_18 ?_
  refine z_aload_n X 0 rfl rfl dX3_times_21 ?_
  refine z_get X zinX3 0 (by omega) gC_T (ci := 5) rfl 7 (by decide) (ref := "TowerFields") zw127 rfl rfl dX3_times_22 ?_
  refine z_iconst X (n := 1) dX3_times_25 ?_
  refine z_eqi (b := vz (1 : FP)) rfl ?_
  refine z_callVv X zm_X2_plusProduct zw410 zw411 zw409 (zFitN_of (by decide) (by decide) (by decide) (by decide)) [.ref (ad (0 + 3)), .ref (ad (2 + 3)), .int (iZ (vz (1 : FP)))] (c_X2_plusProduct HU HA l R2 (q := 6) (qa := 0) (qb := 2) (by omega) (by omega) (by omega) (by omega) (by omega) vP2 (kP2 0 _ (by omega) v0) (kP2 2 _ (by omega) v2) (1) (by have := zba.1; have := zbc.1; omega) (by have := zba.2; have := zbc.2; omega)) rfl rfl (Nat.le_of_ble_eq_true rfl) (by omega) (gC_P (by omega)) (q := vwCl[4]) rfl rfl dX3_times_26 (fun S3 R3 => ?_)
  rw [zpp1 HU HA] at R3
  obtain ⟨P3, eP3, vP3, kP3, fP3⟩ := zP_new ca P2 6 ((EL n1).1 * (EL n2).1) m1.1
  rw [← eP3] at R3
  refine z_aload_n X 0 rfl rfl dX3_times_29 ?_
  refine z_get X zinX3 0 (by omega) gC_T (ci := 5) rfl 12 (by decide) (ref := "TowerFields") zw132 rfl rfl dX3_times_30 ?_
  refine z_callVv X zm_X2_clear zw286 zw287 zw285 (zFitN_of (by decide) (by decide) (by decide) (by decide)) [] (c_X2_clear HU l R3 (q := 7) (by omega)) rfl rfl (Nat.le_of_ble_eq_true rfl) (by omega) (gC_P (by omega)) (q := vwCl[4]) rfl rfl dX3_times_33 (fun S4 R4 => ?_)
  rw [pwn_zA HA] at R4
  obtain ⟨P4, eP4, vP4, kP4, fP4⟩ := zP_new ca P3 7 ((0 : V)) (zs0 HA)
  rw [← eP4] at R4
  refine z_aload_n X 0 rfl rfl dX3_times_36 ?_
  refine z_get X zinX3 0 (by omega) gC_T (ci := 5) rfl 12 (by decide) (ref := "TowerFields") zw132 rfl rfl dX3_times_37 ?_
  refine z_aload_n X 0 rfl rfl dX3_times_40 ?_
  refine z_get X zinX3 0 (by omega) gC_T (ci := 5) rfl 6 (by decide) (ref := "TowerFields") zw126 rfl rfl dX3_times_41 ?_
  refine z_aload_n X 0 rfl rfl dX3_times_44 ?_
  refine z_get X zinX3 0 (by omega) gC_T (ci := 5) rfl 8 (by decide) (ref := "TowerFields") zw128 rfl rfl dX3_times_45 ?_
  refine z_iconst X (n := 1) dX3_times_48 ?_
  refine z_eqi (b := vz (1 : FP)) rfl ?_
  refine z_callVv X zm_X2_plusProduct zw410 zw411 zw409 (zFitN_of (by decide) (by decide) (by decide) (by decide)) [.ref (ad (1 + 3)), .ref (ad (3 + 3)), .int (iZ (vz (1 : FP)))] (c_X2_plusProduct HU HA l R4 (q := 7) (qa := 1) (qb := 3) (by omega) (by omega) (by omega) (by omega) (by omega) vP4 (kP4 1 _ (by omega) (kP3 1 _ (by omega) (kP2 1 _ (by omega) v1))) (kP4 3 _ (by omega) (kP3 3 _ (by omega) (kP2 3 _ (by omega) v3))) (1) (by have := zbb.1; have := zbd.1; omega) (by have := zbb.2; have := zbd.2; omega)) rfl rfl (Nat.le_of_ble_eq_true rfl) (by omega) (gC_P (by omega)) (q := vwCl[4]) rfl rfl dX3_times_49 (fun S5 R5 => ?_)
  rw [zpp1 HU HA] at R5
  obtain ⟨P5, eP5, vP5, kP5, fP5⟩ := zP_new ca P4 7 ((EL n1).2 * (EL n2).2) m2.1
  rw [← eP5] at R5
  refine z_aload_n X 0 rfl rfl dX3_times_52 ?_
  refine z_callViT X XX ht zm_X3_keepLowest zw560 zp23 zw558 (zFitX_of (by decide) (by decide) (by decide) (by decide)) [] (c_X3_keepLowest HU HA l hl9 R5 (kP5 6 _ (by omega) (kP4 6 _ (by omega) vP3)) vP5 (mp_nz_mul hAd nb nd) (by have := m1.2; omega) (by have := m2.2; omega) hm0 hroom) rfl rfl (Nat.le_of_ble_eq_true rfl) (by omega) gC_T (q := vwCl[5]) rfl rfl dX3_times_53 (fun E u h => by obtain ⟨q0, P8, pp8, qq8, q1, q2, q3, q4⟩ := h; exact ⟨u, ⟨zC_same hrec q1 (fun j hj => by rw [q2 j (by omega), fP5 j (by omega), fP4 j (by omega), fP3 j (by omega), fP2 j (by omega), f1 j (by omega)]), Or.inr (Or.inr ⟨q0, ⟨e1, e2⟩, by omega, pp8, qq8, q3, q4⟩)⟩, rfl⟩) (by decide) (by decide) (fun z S9 hu9 => ?_)
  obtain ⟨hz, P9, f9, pp9, qq9, R9, g1, g2, g3, glow⟩ := hu9
  subst hz
  have gnf : zNf cu ca pp9 qq9 := by obtain ⟨_, _, _, q3, q4⟩ := glow; exact ⟨q3, q4⟩
  exact E S9 (by decide) (by decide) ⟨e1, e2, by omega, ⟨hmd, pp9, qq9, zC_add hrec R9 hroom g1 g2 gnf (fun j hj => by rw [g3 j (by omega), fP5 j (by omega), fP4 j (by omega), fP3 j (by omega), fP2 j (by omega), f1 j (by omega)]), glow⟩⟩ rfl dX3_times_56
set_option maxHeartbeats 8000000 in
set_option maxRecDepth 100000 in
theorem c_X3_over {U V : Type} [Lean.Grind.CommRing U] [Lean.Grind.CommRing V] {cu : U → Nat → FP} {ca : V → Nat → U} (HU : mp_P cu) (HA : mp_P ca) (l : Launch) (hl9 : l.stackTraces = false) {D : va_G} {ad sa : Nat → Nat} {cI cO : ClassId} {EL : Int → V × V} {md kd : Int} {sA sB : U} {S : zS} (hC : zC cu ca EL md kd sA sB S) {n1 n2 : Int} (hn1 : -2147483648 ≤ n1 ∧ n1 < 2147483648) (hn2 : -2147483648 ≤ n2 ∧ n2 < 2147483648) : zTi l yX3_over cX3_over 3 (some .int) 8 4 D (zTy cI cO) 419 ad sa [.ref (ad 0), .int (iZ n1), .int (iZ n2)] (gC ad cI cO S) (gC ad cI cO) (fun z u => (0 ≤ n1 ∧ n1 < md) ∧ (0 ≤ n2 ∧ n2 < md) ∧ md < 120 ∧ ((z = -1 ∧ (EL n2).1 = 0 ∧ zC cu ca EL md kd sA sB u) ∨ ((EL n2).1 ≠ 0 ∧ z = md ∧ ∃ p q, zC cu ca (zUp EL md (p, q)) (md + 1) kd sA sB u ∧ zLow cu ca ((EL n1).1 * (EL n2).2) ((EL n1).2 * (EL n2).1) p q))) (fun E u => zC cu ca EL md kd sA sB u ∧ ((E = "java/lang/IndexOutOfBoundsException" ∧ ¬ ((0 ≤ n1 ∧ n1 < md) ∧ (0 ≤ n2 ∧ n2 < md))) ∨ (E = "java/lang/IllegalStateException" ∧ ((0 ≤ n1 ∧ n1 < md) ∧ (0 ≤ n2 ∧ n2 < md)) ∧ ¬ md < 120) ∨ (E = "java/lang/IllegalStateException" ∧ ((0 ≤ n1 ∧ n1 < md) ∧ (0 ≤ n2 ∧ n2 < md)) ∧ md < 120 ∧ (EL n2).1 ≠ 0 ∧ ∃ p q, zLow cu ca ((EL n1).1 * (EL n2).2) ((EL n1).2 * (EL n2).1) p q ∧ ¬ zFits cu ca p q))) := by
  obtain ⟨P, T, hR, hEL, hmd, hkd, h182, h183, hone, hnf, hsA, hsB, hkb⟩ := hC
  have hrec := And.intro hEL (And.intro hmd (And.intro hkd (And.intro h182 (And.intro h183 (And.intro hone (And.intro hnf (And.intro hsA (And.intro hsB hkb))))))))
  have hC0 : zC cu ca EL md kd sA sB S := ⟨P, T, hR, hEL, hmd, hkd, h182, h183, hone, hnf, hsA, hsB, hkb⟩
  have hm0 := hEL.1
  have hm1 := hEL.2.1
  have hS1 : S.2.2.2.2.1 = T.2.1 := by rw [hR.2.2.2.2.2]
  have hS2 : S.2.2.2.2.2 = T.2.2 := by rw [hR.2.2.2.2.2]
  refine z_goti zm_X3_over (Nat.le_of_ble_eq_true rfl) [(0, .ref (ad 0)), (1, .int (iZ (n1))), (2, .int (iZ (n2)))] rfl (fun p e s m args below meth c A X XX ht E => ?_)
  refine z_aload_n X 0 rfl rfl dX3_over_0 ?_
  refine z_iload_n X 1 rfl rfl dX3_over_1 ?_
  refine z_iload_n X 2 rfl rfl dX3_over_2 ?_
  refine z_callVvT X XX ht zm_X3_takeTwo zw552 zp21 zw550 (zFitX_of (by decide) (by decide) (by decide) (by decide)) [.int (iZ (n1)), .int (iZ (n2))] (c_X3_takeTwo HU HA l hl9 hR hEL hn1 hn2) rfl rfl (Nat.le_of_ble_eq_true rfl) (by omega) gC_T (q := vwCl[5]) rfl rfl dX3_over_3 (fun E u h => ⟨u, ⟨by rw [h.1]; exact hC0, h.2.elim (fun q => Or.inl ⟨q.1, fun q9 => q.2 ⟨⟨q9.1.1, by have := q9.1.2; omega⟩, ⟨q9.2.1, by have := q9.2.2; omega⟩⟩⟩) (fun q => Or.inr (Or.inl ⟨q.1, ⟨⟨q.2.1.1, by have := q.2.1.2; omega⟩, ⟨q.2.2.1.1, by have := q.2.2.1.2; omega⟩⟩, by have := q.2.2.2; omega⟩))⟩, rfl⟩) (by decide) (by decide) (fun S1 hu1 => ?_)
  obtain ⟨hd1, hd2, hroom, P1, R1, v0, v1, v2, v3, f1⟩ := hu1
  obtain ⟨hBa, hBb⟩ := hEL.2.2 n1 hd1.1 hd1.2
  obtain ⟨hBc, hBd⟩ := hEL.2.2 n2 hd2.1 hd2.2
  have zba : zb cu ca 7 (EL n1).1 := hBa.2
  have zbb : zb cu ca 7 (EL n1).2 := hBb.2
  have zbc : zb cu ca 7 (EL n2).1 := hBc.2
  have zbd : zb cu ca 7 (EL n2).2 := hBd.2
  have hAd := mp_dom HA (mp_dom HU (mp_Fd_nz mp_FP))
  have nb := zNf_ne HU HA (hnf n1 hd1.1 (by have := hd1.2; omega))
  have nd := zNf_ne HU HA (hnf n2 hd2.1 (by have := hd2.2; omega))
  have e1 : 0 ≤ n1 ∧ n1 < md := ⟨hd1.1, by have := hd1.2; omega⟩
  have e2 : 0 ≤ n2 ∧ n2 < md := ⟨hd2.1, by have := hd2.2; omega⟩
  refine z_aload_n X 0 rfl rfl dX3_over_6 ?_
  refine z_get X zinX3 0 (by omega) gC_T (ci := 5) rfl 7 (by decide) (ref := "TowerFields") zw127 rfl rfl dX3_over_7 ?_
  refine z_callVi X zm_X2_isZero zw419 zw420 zw418 (zFitN_of (by decide) (by decide) (by decide) (by decide)) [] (c_X2_isZero HU HA l R1 (q := 2) (by omega) v2) rfl rfl (Nat.le_of_ble_eq_true rfl) (by omega) (gC_P (by omega)) (q := vwCl[4]) rfl rfl dX3_over_10 (fun z _ hz => ?_)
  have hz01 : z = 0 ∨ z = 1 := by rw [hz]; split <;> omega
  have hn2z : z = 0 → (EL n2).1 ≠ 0 := fun h0 q => by rw [if_pos q] at hz; omega
  have hy2z : ¬ z = 0 → (EL n2).1 = 0 := fun h0 => Classical.byContradiction (fun q => by rw [if_neg q] at hz; omega)
  refine z_if_eq X (tgt := 18) (by omega) dX3_over_13 (by decide) (fun hb13 => ?_) (fun hb13 => ?_)
  · refine z_aload_n X 0 rfl rfl dX3_over_18 ?_
    refine z_get X zinX3 0 (by omega) gC_T (ci := 5) rfl 11 (by decide) (ref := "TowerFields") zw131 rfl rfl dX3_over_19 ?_
    have nc : (EL n2).1 ≠ 0 := hn2z (by omega)
    have m1 := zb_mul HU HA (m := 6) (n := 6) zba zbd
    have m2 := zb_mul HU HA (m := 6) (n := 6) zbb zbc
    refine z_callVv X zm_X2_clear zw286 zw287 zw285 (zFitN_of (by decide) (by decide) (by decide) (by decide)) [] (c_X2_clear HU l R1 (q := 6) (by omega)) rfl rfl (Nat.le_of_ble_eq_true rfl) (by omega) (gC_P (by omega)) (q := vwCl[4]) rfl rfl dX3_over_22 (fun S2 R2 => ?_)
    rw [pwn_zA HA] at R2
    obtain ⟨P2, eP2, vP2, kP2, fP2⟩ := zP_new ca P1 6 ((0 : V)) (zs0 HA)
    rw [← eP2] at R2
    refine z_aload_n X 0 rfl rfl dX3_over_25 ?_
    refine z_get X zinX3 0 (by omega) gC_T (ci := 5) rfl 11 (by decide) (ref := "TowerFields") zw131 rfl rfl dX3_over_26 ?_
    refine z_aload_n X 0 rfl rfl dX3_over_29 ?_
    refine z_get X zinX3 0 (by omega) gC_T (ci := 5) rfl 5 (by decide) (ref := "TowerFields") zw125 rfl rfl dX3_over_30 ?_
    refine z_aload_n X 0 rfl rfl dX3_over_33 ?_
    refine z_get X zinX3 0 (by omega) gC_T (ci := 5) rfl 8 (by decide) (ref := "TowerFields") zw128 rfl rfl dX3_over_34 ?_
    refine z_iconst X (n := 1) dX3_over_37 ?_
    refine z_eqi (b := vz (1 : FP)) rfl ?_
    refine z_callVv X zm_X2_plusProduct zw410 zw411 zw409 (zFitN_of (by decide) (by decide) (by decide) (by decide)) [.ref (ad (0 + 3)), .ref (ad (3 + 3)), .int (iZ (vz (1 : FP)))] (c_X2_plusProduct HU HA l R2 (q := 6) (qa := 0) (qb := 3) (by omega) (by omega) (by omega) (by omega) (by omega) vP2 (kP2 0 _ (by omega) v0) (kP2 3 _ (by omega) v3) (1) (by have := zba.1; have := zbd.1; omega) (by have := zba.2; have := zbd.2; omega)) rfl rfl (Nat.le_of_ble_eq_true rfl) (by omega) (gC_P (by omega)) (q := vwCl[4]) rfl rfl dX3_over_38 (fun S3 R3 => ?_)
    rw [zpp1 HU HA] at R3
    obtain ⟨P3, eP3, vP3, kP3, fP3⟩ := zP_new ca P2 6 ((EL n1).1 * (EL n2).2) m1.1
    rw [← eP3] at R3
    refine z_aload_n X 0 rfl rfl dX3_over_41 ?_
    refine z_get X zinX3 0 (by omega) gC_T (ci := 5) rfl 12 (by decide) (ref := "TowerFields") zw132 rfl rfl dX3_over_42 ?_
    refine z_callVv X zm_X2_clear zw286 zw287 zw285 (zFitN_of (by decide) (by decide) (by decide) (by decide)) [] (c_X2_clear HU l R3 (q := 7) (by omega)) rfl rfl (Nat.le_of_ble_eq_true rfl) (by omega) (gC_P (by omega)) (q := vwCl[4]) rfl rfl dX3_over_45 (fun S4 R4 => ?_)
    rw [pwn_zA HA] at R4
    obtain ⟨P4, eP4, vP4, kP4, fP4⟩ := zP_new ca P3 7 ((0 : V)) (zs0 HA)
    rw [← eP4] at R4
    refine z_aload_n X 0 rfl rfl dX3_over_48 ?_
    refine z_get X zinX3 0 (by omega) gC_T (ci := 5) rfl 12 (by decide) (ref := "TowerFields") zw132 rfl rfl dX3_over_49 ?_
    refine z_aload_n X 0 rfl rfl dX3_over_52 ?_
    refine z_get X zinX3 0 (by omega) gC_T (ci := 5) rfl 6 (by decide) (ref := "TowerFields") zw126 rfl rfl dX3_over_53 ?_
    refine z_aload_n X 0 rfl rfl dX3_over_56 ?_
    refine z_get X zinX3 0 (by omega) gC_T (ci := 5) rfl 7 (by decide) (ref := "TowerFields") zw127 rfl rfl dX3_over_57 ?_
    refine z_iconst X (n := 1) dX3_over_60 ?_
    refine z_eqi (b := vz (1 : FP)) rfl ?_
    refine z_callVv X zm_X2_plusProduct zw410 zw411 zw409 (zFitN_of (by decide) (by decide) (by decide) (by decide)) [.ref (ad (1 + 3)), .ref (ad (2 + 3)), .int (iZ (vz (1 : FP)))] (c_X2_plusProduct HU HA l R4 (q := 7) (qa := 1) (qb := 2) (by omega) (by omega) (by omega) (by omega) (by omega) vP4 (kP4 1 _ (by omega) (kP3 1 _ (by omega) (kP2 1 _ (by omega) v1))) (kP4 2 _ (by omega) (kP3 2 _ (by omega) (kP2 2 _ (by omega) v2))) (1) (by have := zbb.1; have := zbc.1; omega) (by have := zbb.2; have := zbc.2; omega)) rfl rfl (Nat.le_of_ble_eq_true rfl) (by omega) (gC_P (by omega)) (q := vwCl[4]) rfl rfl dX3_over_61 (fun S5 R5 => ?_)
    rw [zpp1 HU HA] at R5
    obtain ⟨P5, eP5, vP5, kP5, fP5⟩ := zP_new ca P4 7 ((EL n1).2 * (EL n2).1) m2.1
    rw [← eP5] at R5
    refine z_aload_n X 0 rfl rfl dX3_over_64 ?_
    refine z_callViT X XX ht zm_X3_keepLowest zw560 zp23 zw558 (zFitX_of (by decide) (by decide) (by decide) (by decide)) [] (c_X3_keepLowest HU HA l hl9 R5 (kP5 6 _ (by omega) (kP4 6 _ (by omega) vP3)) vP5 (mp_nz_mul hAd nb nc) (by have := m1.2; omega) (by have := m2.2; omega) hm0 hroom) rfl rfl (Nat.le_of_ble_eq_true rfl) (by omega) gC_T (q := vwCl[5]) rfl rfl dX3_over_65 (fun E u h => by obtain ⟨q0, P8, pp8, qq8, q1, q2, q3, q4⟩ := h; exact ⟨u, ⟨zC_same hrec q1 (fun j hj => by rw [q2 j (by omega), fP5 j (by omega), fP4 j (by omega), fP3 j (by omega), fP2 j (by omega), f1 j (by omega)]), Or.inr (Or.inr ⟨q0, ⟨e1, e2⟩, by omega, nc, pp8, qq8, q3, q4⟩)⟩, rfl⟩) (by decide) (by decide) (fun z S9 hu9 => ?_)
    obtain ⟨hz, P9, f9, pp9, qq9, R9, g1, g2, g3, glow⟩ := hu9
    subst hz
    have gnf : zNf cu ca pp9 qq9 := by obtain ⟨_, _, _, q3, q4⟩ := glow; exact ⟨q3, q4⟩
    exact E S9 (by decide) (by decide) ⟨e1, e2, by omega, Or.inr ⟨nc, hmd, pp9, qq9, zC_add hrec R9 hroom g1 g2 gnf (fun j hj => by rw [g3 j (by omega), fP5 j (by omega), fP4 j (by omega), fP3 j (by omega), fP2 j (by omega), f1 j (by omega)]), glow⟩⟩ rfl dX3_over_68
  · refine z_iconst X (n := -1) dX3_over_16 ?_
    exact E S1 (by decide) (by decide) ⟨e1, e2, by omega, Or.inl ⟨rfl, hy2z (by omega), zC_same hrec R1 (fun j hj => f1 j (by omega))⟩⟩ rfl dX3_over_17
