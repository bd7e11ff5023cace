set_option maxHeartbeats 8000000 in
set_option maxRecDepth 100000 in
theorem c_X3_derive {U V : Type} [Lean.Grind.CommRing U] [Lean.Grind.CommRing V] {cu : U → Nat → FP} {ca : V → Nat → U} (HU : mp_P cu) (HA : mp_P ca) (l : Launch) (hl9 : l.stackTraces = false) {D : va_G} {ad sa : Nat → Nat} {cI cO : ClassId} {EL : Int → V × V} {md kd : Int} {sA sB : U} {S : zS} (hC : zC cu ca EL md kd sA sB S) (hsB0 : sB ≠ 0) {n : Int} (hn : -2147483648 ≤ n ∧ n < 2147483648) : zTi l yX3_derive cX3_derive 2 (some .int) 8 3 D (zTy cI cO) 419 ad sa [.ref (ad 0), .int (iZ n)] (gC ad cI cO S) (gC ad cI cO) (fun z u => (0 ≤ n ∧ n < md) ∧ md < 120 ∧ z = md ∧ ∃ p q, zC cu ca (zUp EL md (p, q)) (md + 1) kd sA sB u ∧ zLow cu ca (md_E cu ca sB (zW ca kd sA) (EL n).1 * (EL n).2 - md_E cu ca sB (zW ca kd sA) (EL n).2 * (EL n).1) (mp_C ca sB * ((EL n).2 * (EL n).2)) p q) (fun E u => zC cu ca EL md kd sA sB u ∧ ((E = "java/lang/IndexOutOfBoundsException" ∧ ¬ (0 ≤ n ∧ n < md)) ∨ (E = "java/lang/IllegalStateException" ∧ (0 ≤ n ∧ n < md) ∧ ¬ md < 120) ∨ (E = "java/lang/IllegalStateException" ∧ (0 ≤ n ∧ n < md) ∧ md < 120 ∧ ∃ p q, zLow cu ca (md_E cu ca sB (zW ca kd sA) (EL n).1 * (EL n).2 - md_E cu ca sB (zW ca kd sA) (EL n).2 * (EL n).1) (mp_C ca sB * ((EL n).2 * (EL n).2)) p q ∧ ¬ zFits cu ca p q))) := by
  have hAd := mp_dom HA (mp_dom HU (mp_Fd_nz mp_FP))
  obtain ⟨P, T, hR, hEL, hmd, hkd, h182, h183, hone, hnf, hsA, hsB, hkb⟩ := hC
  have hrec := And.intro hEL (And.intro hmd (And.intro hkd (And.intro h182 (And.intro h183 (And.intro hone (And.intro hnf (And.intro hsA (And.intro hsB hkb))))))))
  have hC0 : zC cu ca EL md kd sA sB S := ⟨P, T, hR, hEL, hmd, hkd, h182, h183, hone, hnf, hsA, hsB, hkb⟩
  have hm0 := hEL.1
  have hm1 := hEL.2.1
  have hS1 : S.2.2.2.2.1 = T.2.1 := by rw [hR.2.2.2.2.2]
  have hS2 : S.2.2.2.2.2 = T.2.2 := by rw [hR.2.2.2.2.2]
  refine z_goti zm_X3_derive (Nat.le_of_ble_eq_true rfl) [(0, .ref (ad 0)), (1, .int (iZ (n)))] rfl (fun p e s m args below meth c A X XX ht E => ?_)
  refine z_aload_n X 0 rfl rfl dX3_derive_0 ?_
  refine z_iload_n X 1 rfl rfl dX3_derive_1 ?_
  refine z_callVvT X XX ht zm_X3_requireElement zw344 zp5 zw342 (zFitX_of (by decide) (by decide) (by decide) (by decide)) [.int (iZ (n))] (c_X3_requireElement l hl9 S hn hS1 ⟨hm0, hm1⟩) rfl rfl (Nat.le_of_ble_eq_true rfl) (by omega) gC_T (q := vwCl[5]) rfl rfl dX3_derive_2 (fun E _ h => ⟨S, ⟨hC0, Or.inl ⟨h.1, fun q => h.2 ⟨q.1, by omega⟩⟩⟩, rfl⟩) (by decide) (by decide) (fun u hh => ?_)
  have e1 : 0 ≤ n ∧ n < md := ⟨hh.1, by have := hh.2; omega⟩
  obtain ⟨hBa, hBb⟩ := hEL.2.2 n hh.1 hh.2
  have zba : zb cu ca 7 (EL n).1 := hBa.2
  have zbb : zb cu ca 7 (EL n).2 := hBb.2
  have nb := zNf_ne HU HA (hnf n e1.1 e1.2)
  refine z_aload_n X 0 rfl rfl dX3_derive_5 ?_
  refine z_callVvT X XX ht zm_X3_requireRoom zw253 zp1 zw251 (zFitX_of (by decide) (by decide) (by decide) (by decide)) [] (c_X3_requireRoom l hl9 S hS1 ⟨hm0, hm1⟩) rfl rfl (Nat.le_of_ble_eq_true rfl) (by omega) gC_T (q := vwCl[5]) rfl rfl dX3_derive_6 (fun E _ h => ⟨S, ⟨hC0, Or.inr (Or.inl ⟨h.1, e1, by have := h.2; omega⟩)⟩, rfl⟩) (by decide) (by decide) (fun u hroom => ?_)
  refine z_aload_n X 0 rfl rfl dX3_derive_9 ?_
  refine z_iload_n X 1 rfl rfl dX3_derive_10 ?_
  refine z_callVv X zm_X3_slopeOfFraction zw382 zp7 zw380 (zFitN_of (by decide) (by decide) (by decide) (by decide)) [.int (iZ (n))] (c_X3_slopeOfFraction HU HA l hR (n := n) (by omega) (by omega) ⟨hBa, hBb⟩ (by rw [h182]; exact hsA) (by rw [h183]; exact hsB) (by omega)) rfl rfl (Nat.le_of_ble_eq_true rfl) (by omega) gC_T (q := vwCl[5]) rfl rfl dX3_derive_11 (fun S1 hu1 => ?_)
  obtain ⟨P1, R1, v0, v1, v6, hb6, f1⟩ := hu1
  unfold zE at v6 hb6
  rw [h182, h183, hkd] at v6 hb6
  have h1831 : P1 183 = sB := by rw [f1 _ (by omega), h183]
  refine z_aload_n X 0 rfl rfl dX3_derive_14 ?_
  refine z_aload_n X 0 rfl rfl dX3_derive_15 ?_
  refine z_get X zinX3 0 (by omega) gC_T (ci := 5) rfl 6 (by decide) (ref := "TowerFields") zw126 rfl rfl dX3_derive_16 ?_
  refine z_aload_n X 0 rfl rfl dX3_derive_19 ?_
  refine z_get X zinX3 0 (by omega) gC_T (ci := 5) rfl 6 (by decide) (ref := "TowerFields") zw126 rfl rfl dX3_derive_20 ?_
  refine z_callVv X zm_X3_slopeOverProduct zw600 zp24 zw598 (zFitN_of (by decide) (by decide) (by decide) (by decide)) [.ref (ad (1 + 3)), .ref (ad (1 + 3))] (c_X3_slopeOverProduct HU HA l R1 (qa := 1) (qb := 1) (by omega) (by omega) v1 v1 zbb zbb (by rw [h1831]; exact hsB)) rfl rfl (Nat.le_of_ble_eq_true rfl) (by omega) gC_T (q := vwCl[5]) rfl rfl dX3_derive_23 (fun S2 hu2 => ?_)
  obtain ⟨P2, R2, w7, f2⟩ := hu2
  rw [h1831] at w7
  have hz7 : mp_C ca sB * ((EL n).2 * (EL n).2) ≠ 0 := mp_nz_mul hAd (mp_C_ne HA hsB0) (mp_nz_mul hAd nb nb)
  have hx7 : mp_xz cu ca (mp_C ca sB * ((EL n).2 * (EL n).2)) ≤ 26 := by
    have m1 := zb_mul HU HA (m := 6) (n := 6) zbb zbb
    have := mp_sz_mul_le (mp_sw_P HU HA) (m := 12) (n := 12) (a := mp_C ca sB) (b := (EL n).2 * (EL n).2) (by show mp_xz cu ca _ ≤ 13; rw [mp_xz_C HU HA]; exact hsB) m1.2
    exact Nat.le_trans this (by omega)
  refine z_aload_n X 0 rfl rfl dX3_derive_26 ?_
  refine z_callViT X XX ht zm_X3_keepLowest zw560 zp23 zw558 (zFitX_of (by decide) (by decide) (by decide) (by decide)) [] (c_X3_keepLowest HU HA l hl9 R2 (zV_eq v6 (fun i hi => f2 _ (by omega))) w7 hz7 (by omega) hx7 hm0 hroom) rfl rfl (Nat.le_of_ble_eq_true rfl) (by omega) gC_T (q := vwCl[5]) rfl rfl dX3_derive_27 (fun E u h => by obtain ⟨q0, P8, pp8, qq8, q1, q2, q3, q4⟩ := h; exact ⟨u, ⟨zC_same hrec q1 (fun j hj => by rw [q2 j (by omega), f2 j (by omega), f1 j (by omega)]), Or.inr (Or.inr ⟨q0, e1, by omega, pp8, qq8, q3, q4⟩)⟩, rfl⟩) (by decide) (by decide) (fun z S9 hu9 => ?_)
  obtain ⟨hz, P9, f9, pp9, qq9, R9, g1, g2, g3, glow⟩ := hu9
  subst hz
  have gnf : zNf cu ca pp9 qq9 := by obtain ⟨_, _, _, q3, q4⟩ := glow; exact ⟨q3, q4⟩
  exact E S9 (by decide) (by decide) ⟨e1, by omega, hmd, pp9, qq9, zC_add hrec R9 hroom g1 g2 gnf (fun j hj => by rw [g3 j (by omega), f2 j (by omega), f1 j (by omega)]), glow⟩ rfl dX3_derive_30
set_option maxHeartbeats 8000000 in
set_option maxRecDepth 100000 in
theorem c_X3_logarithmic {U V : Type} [Lean.Grind.CommRing U] [Lean.Grind.CommRing V] {cu : U → Nat → FP} {ca : V → Nat → U} (HU : mp_P cu) (HA : mp_P ca) (l : Launch) (hl9 : l.stackTraces = false) {D : va_G} {ad sa : Nat → Nat} {cI cO : ClassId} {EL : Int → V × V} {md kd : Int} {sA sB : U} {S : zS} (hC : zC cu ca EL md kd sA sB S) (hsB0 : sB ≠ 0) {n : Int} (hn : -2147483648 ≤ n ∧ n < 2147483648) : zTi l yX3_logarithmic cX3_logarithmic 2 (some .int) 8 3 D (zTy cI cO) 419 ad sa [.ref (ad 0), .int (iZ n)] (gC ad cI cO S) (gC ad cI cO) (fun z u => (0 ≤ n ∧ n < md) ∧ md < 120 ∧ ((z = -1 ∧ (EL n).1 = 0 ∧ zC cu ca EL md kd sA sB u) ∨ ((EL n).1 ≠ 0 ∧ z = md ∧ ∃ p q, zC cu ca (zUp EL md (p, q)) (md + 1) kd sA sB u ∧ zLow cu ca (md_E cu ca sB (zW ca kd sA) (EL n).1 * (EL n).2 - md_E cu ca sB (zW ca kd sA) (EL n).2 * (EL n).1) (mp_C ca sB * ((EL n).1 * (EL n).2)) p q))) (fun E u => zC cu ca EL md kd sA sB u ∧ ((E = "java/lang/IndexOutOfBoundsException" ∧ ¬ (0 ≤ n ∧ n < md)) ∨ (E = "java/lang/IllegalStateException" ∧ (0 ≤ n ∧ n < md) ∧ ¬ md < 120) ∨ (E = "java/lang/IllegalStateException" ∧ (0 ≤ n ∧ n < md) ∧ md < 120 ∧ (EL n).1 ≠ 0 ∧ ∃ p q, zLow cu ca (md_E cu ca sB (zW ca kd sA) (EL n).1 * (EL n).2 - md_E cu ca sB (zW ca kd sA) (EL n).2 * (EL n).1) (mp_C ca sB * ((EL n).1 * (EL n).2)) p q ∧ ¬ zFits cu ca p q))) := by
  have hAd := mp_dom HA (mp_dom HU (mp_Fd_nz mp_FP))
  obtain ⟨P, T, hR, hEL, hmd, hkd, h182, h183, hone, hnf, hsA, hsB, hkb⟩ := hC
  have hrec := And.intro hEL (And.intro hmd (And.intro hkd (And.intro h182 (And.intro h183 (And.intro hone (And.intro hnf (And.intro hsA (And.intro hsB hkb))))))))
  have hC0 : zC cu ca EL md kd sA sB S := ⟨P, T, hR, hEL, hmd, hkd, h182, h183, hone, hnf, hsA, hsB, hkb⟩
  have hm0 := hEL.1
  have hm1 := hEL.2.1
  have hS1 : S.2.2.2.2.1 = T.2.1 := by rw [hR.2.2.2.2.2]
  have hS2 : S.2.2.2.2.2 = T.2.2 := by rw [hR.2.2.2.2.2]
  refine z_goti zm_X3_logarithmic (Nat.le_of_ble_eq_true rfl) [(0, .ref (ad 0)), (1, .int (iZ (n)))] rfl (fun p e s m args below meth c A X XX ht E => ?_)
  refine z_aload_n X 0 rfl rfl dX3_logarithmic_0 ?_
  refine z_iload_n X 1 rfl rfl dX3_logarithmic_1 ?_
  refine z_callVvT X XX ht zm_X3_requireElement zw344 zp5 zw342 (zFitX_of (by decide) (by decide) (by decide) (by decide)) [.int (iZ (n))] (c_X3_requireElement l hl9 S hn hS1 ⟨hm0, hm1⟩) rfl rfl (Nat.le_of_ble_eq_true rfl) (by omega) gC_T (q := vwCl[5]) rfl rfl dX3_logarithmic_2 (fun E _ h => ⟨S, ⟨hC0, Or.inl ⟨h.1, fun q => h.2 ⟨q.1, by omega⟩⟩⟩, rfl⟩) (by decide) (by decide) (fun u hh => ?_)
  have e1 : 0 ≤ n ∧ n < md := ⟨hh.1, by have := hh.2; omega⟩
  obtain ⟨hBa, hBb⟩ := hEL.2.2 n hh.1 hh.2
  have zba : zb cu ca 7 (EL n).1 := hBa.2
  have zbb : zb cu ca 7 (EL n).2 := hBb.2
  have nb := zNf_ne HU HA (hnf n e1.1 e1.2)
  refine z_aload_n X 0 rfl rfl dX3_logarithmic_5 ?_
  refine z_callVvT X XX ht zm_X3_requireRoom zw253 zp1 zw251 (zFitX_of (by decide) (by decide) (by decide) (by decide)) [] (c_X3_requireRoom l hl9 S hS1 ⟨hm0, hm1⟩) rfl rfl (Nat.le_of_ble_eq_true rfl) (by omega) gC_T (q := vwCl[5]) rfl rfl dX3_logarithmic_6 (fun E _ h => ⟨S, ⟨hC0, Or.inr (Or.inl ⟨h.1, e1, by have := h.2; omega⟩)⟩, rfl⟩) (by decide) (by decide) (fun u hroom => ?_)
  refine z_aload_n X 0 rfl rfl dX3_logarithmic_9 ?_
  refine z_iload_n X 1 rfl rfl dX3_logarithmic_10 ?_
  refine z_callVv X zm_X3_slopeOfFraction zw382 zp7 zw380 (zFitN_of (by decide) (by decide) (by decide) (by decide)) [.int (iZ (n))] (c_X3_slopeOfFraction HU HA l hR (n := n) (by omega) (by omega) ⟨hBa, hBb⟩ (by rw [h182]; exact hsA) (by rw [h183]; exact hsB) (by omega)) rfl rfl (Nat.le_of_ble_eq_true rfl) (by omega) gC_T (q := vwCl[5]) rfl rfl dX3_logarithmic_11 (fun S1 hu1 => ?_)
  obtain ⟨P1, R1, v0, v1, v6, hb6, f1⟩ := hu1
  unfold zE at v6 hb6
  rw [h182, h183, hkd] at v6 hb6
  have h1831 : P1 183 = sB := by rw [f1 _ (by omega), h183]
  refine z_aload_n X 0 rfl rfl dX3_logarithmic_14 ?_
  refine z_get X zinX3 0 (by omega) gC_T (ci := 5) rfl 5 (by decide) (ref := "TowerFields") zw125 rfl rfl dX3_logarithmic_15 ?_
  refine z_callVi X zm_X2_isZero zw419 zw420 zw418 (zFitN_of (by decide) (by decide) (by decide) (by decide)) [] (c_X2_isZero HU HA l R1 (q := 0) (by omega) v0) rfl rfl (Nat.le_of_ble_eq_true rfl) (by omega) (gC_P (by omega)) (q := vwCl[4]) rfl rfl dX3_logarithmic_18 (fun z _ hz => ?_)
  have hz01 : z = 0 ∨ z = 1 := by rw [hz]; split <;> omega
  have hnz : z = 0 → (EL n).1 ≠ 0 := fun h0 q => by rw [if_pos q] at hz; omega
  have hyz : ¬ z = 0 → (EL n).1 = 0 := fun h0 => Classical.byContradiction (fun q => by rw [if_neg q] at hz; omega)
  refine z_if_eq X (tgt := 26) (by omega) dX3_logarithmic_21 (by decide) (fun hb21 => ?_) (fun hb21 => ?_)
  · refine z_aload_n X 0 rfl rfl dX3_logarithmic_26 ?_
    refine z_aload_n X 0 rfl rfl dX3_logarithmic_27 ?_
    refine z_get X zinX3 0 (by omega) gC_T (ci := 5) rfl 5 (by decide) (ref := "TowerFields") zw125 rfl rfl dX3_logarithmic_28 ?_
    refine z_aload_n X 0 rfl rfl dX3_logarithmic_31 ?_
    refine z_get X zinX3 0 (by omega) gC_T (ci := 5) rfl 6 (by decide) (ref := "TowerFields") zw126 rfl rfl dX3_logarithmic_32 ?_
    have na0 : (EL n).1 ≠ 0 := hnz (by omega)
    refine z_callVv X zm_X3_slopeOverProduct zw600 zp24 zw598 (zFitN_of (by decide) (by decide) (by decide) (by decide)) [.ref (ad (0 + 3)), .ref (ad (1 + 3))] (c_X3_slopeOverProduct HU HA l R1 (qa := 0) (qb := 1) (by omega) (by omega) v0 v1 zba zbb (by rw [h1831]; exact hsB)) rfl rfl (Nat.le_of_ble_eq_true rfl) (by omega) gC_T (q := vwCl[5]) rfl rfl dX3_logarithmic_35 (fun S2 hu2 => ?_)
    obtain ⟨P2, R2, w7, f2⟩ := hu2
    rw [h1831] at w7
    have hz7 : mp_C ca sB * ((EL n).1 * (EL n).2) ≠ 0 := mp_nz_mul hAd (mp_C_ne HA hsB0) (mp_nz_mul hAd na0 nb)
    have hx7 : mp_xz cu ca (mp_C ca sB * ((EL n).1 * (EL n).2)) ≤ 26 := by
      have m1 := zb_mul HU HA (m := 6) (n := 6) zba zbb
      have := mp_sz_mul_le (mp_sw_P HU HA) (m := 12) (n := 12) (a := mp_C ca sB) (b := (EL n).1 * (EL n).2) (by show mp_xz cu ca _ ≤ 13; rw [mp_xz_C HU HA]; exact hsB) m1.2
      exact Nat.le_trans this (by omega)
    refine z_aload_n X 0 rfl rfl dX3_logarithmic_38 ?_
    refine z_callViT X XX ht zm_X3_keepLowest zw560 zp23 zw558 (zFitX_of (by decide) (by decide) (by decide) (by decide)) [] (c_X3_keepLowest HU HA l hl9 R2 (zV_eq v6 (fun i hi => f2 _ (by omega))) w7 hz7 (by omega) hx7 hm0 hroom) rfl rfl (Nat.le_of_ble_eq_true rfl) (by omega) gC_T (q := vwCl[5]) rfl rfl dX3_logarithmic_39 (fun E u h => by obtain ⟨q0, P8, pp8, qq8, q1, q2, q3, q4⟩ := h; exact ⟨u, ⟨zC_same hrec q1 (fun j hj => by rw [q2 j (by omega), f2 j (by omega), f1 j (by omega)]), Or.inr (Or.inr ⟨q0, e1, by omega, na0, pp8, qq8, q3, q4⟩)⟩, rfl⟩) (by decide) (by decide) (fun z S9 hu9 => ?_)
    obtain ⟨hz, P9, f9, pp9, qq9, R9, g1, g2, g3, glow⟩ := hu9
    subst hz
    have gnf : zNf cu ca pp9 qq9 := by obtain ⟨_, _, _, q3, q4⟩ := glow; exact ⟨q3, q4⟩
    exact E S9 (by decide) (by decide) ⟨e1, by omega, Or.inr ⟨na0, hmd, pp9, qq9, zC_add hrec R9 hroom g1 g2 gnf (fun j hj => by rw [g3 j (by omega), f2 j (by omega), f1 j (by omega)]), glow⟩⟩ rfl dX3_logarithmic_42
  · refine z_iconst X (n := -1) dX3_logarithmic_24 ?_
    exact E S1 (by decide) (by decide) ⟨e1, by omega, Or.inl ⟨rfl, hyz (by omega), zC_same hrec R1 (fun j hj => f1 j (by omega))⟩⟩ rfl dX3_logarithmic_25
set_option maxHeartbeats 8000000 in
set_option maxRecDepth 100000 in
theorem c_X3_constant {U V : Type} [Lean.Grind.CommRing U] [Lean.Grind.CommRing V] {cu : U → Nat → FP} {ca : V → Nat → U} (HU : mp_P cu) (HA : mp_P ca) (l : Launch) (hl9 : l.stackTraces = false) {D : va_G} {ad sa : Nat → Nat} {cI cO : ClassId} {EL : Int → V × V} {md kd : Int} {sA sB : U} {S : zS} (hC : zC cu ca EL md kd sA sB S) {n : Int} (hn : -2147483648 ≤ n ∧ n < 2147483648) : zTi l yX3_constant cX3_constant 2 (some .boolean) 8 1 D (zTy cI cO) 419 ad sa [.ref (ad 0), .int (iZ n)] (gC ad cI cO S) (gC ad cI cO) (fun z u => (0 ≤ n ∧ n < md) ∧ z = @ite Int ((md_E cu ca sB (zW ca kd sA) (EL n).1 * (EL n).2 - md_E cu ca sB (zW ca kd sA) (EL n).2 * (EL n).1) = 0) (Classical.propDecidable _) 1 0 ∧ zC cu ca EL md kd sA sB u) (fun E u => zC cu ca EL md kd sA sB u ∧ E = "java/lang/IndexOutOfBoundsException" ∧ ¬ (0 ≤ n ∧ n < md)) := by
  obtain ⟨P, T, hR, hEL, hmd, hkd, h182, h183, hone, hnf, hsA, hsB, hkb⟩ := hC
  have hrec := And.intro hEL (And.intro hmd (And.intro hkd (And.intro h182 (And.intro h183 (And.intro hone (And.intro hnf (And.intro hsA (And.intro hsB hkb))))))))
  have hC0 : zC cu ca EL md kd sA sB S := ⟨P, T, hR, hEL, hmd, hkd, h182, h183, hone, hnf, hsA, hsB, hkb⟩
  have hm0 := hEL.1
  have hm1 := hEL.2.1
  have hS1 : S.2.2.2.2.1 = T.2.1 := by rw [hR.2.2.2.2.2]
  have hS2 : S.2.2.2.2.2 = T.2.2 := by rw [hR.2.2.2.2.2]
  refine z_gotz zm_X3_constant (Nat.le_of_ble_eq_true rfl) [(0, .ref (ad 0)), (1, .int (iZ (n)))] rfl (fun p e s m args below meth c A X XX ht E => ?_)
  refine z_aload_n X 0 rfl rfl dX3_constant_0 ?_
  refine z_iload_n X 1 rfl rfl dX3_constant_1 ?_
  refine z_callVvT X XX ht zm_X3_requireElement zw344 zp5 zw342 (zFitX_of (by decide) (by decide) (by decide) (by decide)) [.int (iZ (n))] (c_X3_requireElement l hl9 S hn hS1 ⟨hm0, hm1⟩) rfl rfl (Nat.le_of_ble_eq_true rfl) (by omega) gC_T (q := vwCl[5]) rfl rfl dX3_constant_2 (fun E _ h => ⟨S, ⟨hC0, h.1, fun q => h.2 ⟨q.1, by omega⟩⟩, rfl⟩) (by decide) (by decide) (fun u hh => ?_)
  have e1 : 0 ≤ n ∧ n < md := ⟨hh.1, by have := hh.2; omega⟩
  obtain ⟨hBa, hBb⟩ := hEL.2.2 n hh.1 hh.2
  have zba : zb cu ca 7 (EL n).1 := hBa.2
  have zbb : zb cu ca 7 (EL n).2 := hBb.2
  have nb := zNf_ne HU HA (hnf n e1.1 e1.2)
  refine z_aload_n X 0 rfl rfl dX3_constant_5 ?_
  refine z_iload_n X 1 rfl rfl dX3_constant_6 ?_
  refine z_callVi X zm_X3_hasNoSlope zw378 zp6 zw376 (zFitN_of (by decide) (by decide) (by decide) (by decide)) [.int (iZ (n))] (c_X3_hasNoSlope HU HA l hR (n := n) (by omega) (by omega) ⟨hBa, hBb⟩ (by rw [h182]; exact hsA) (by rw [h183]; exact hsB) (by omega)) rfl rfl (Nat.le_of_ble_eq_true rfl) (by omega) gC_T (q := vwCl[5]) rfl rfl dX3_constant_7 (fun z S1 hu1 => ?_)
  obtain ⟨hz, P1, R1, v0, v1, v6, hb6, f1⟩ := hu1
  unfold zE at hz
  rw [h182, h183, hkd] at hz
  exact E S1 (by decide) (by decide) (by rw [hz]; split <;> omega) ⟨e1, hz, zC_same hrec R1 (fun j hj => f1 j (by omega))⟩ rfl dX3_constant_10
