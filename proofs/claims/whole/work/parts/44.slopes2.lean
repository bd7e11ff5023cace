section
variable {U V : Type}
theorem zpm1 [Lean.Grind.CommRing U] [Lean.Grind.CommRing V] {cu : U → Nat → FP} {ca : V → Nat → U} (HU : mp_P cu) (HA : mp_P ca) (x a b : V) : x + mp_C ca (mp_C cu (-1)) * a * b = x - a * b := by
  rw [mp_C_neg HU, mp_C_neg HA, zC1 HU HA]; grind
/-- the numbers of element n: above and below -/
def zEl [Lean.Grind.CommRing U] [Lean.Grind.CommRing V] (cu : U → Nat → FP) (ca : V → Nat → U) (f : Nat → FP) (n : Int) (a b : V) : Prop := zB cu ca f (98 * n + 49 * 0).toNat a ∧ zB cu ca f (98 * n + 49 * 1).toNat b
noncomputable def zE [Lean.Grind.CommRing U] [Lean.Grind.CommRing V] (cu : U → Nat → FP) (ca : V → Nat → U) (P : Nat → U) (T : zRest) (a : V) : V := md_E cu ca (P 183) (zW ca T.2.2 (P 182)) a
end
set_option maxHeartbeats 8000000 in
set_option maxRecDepth 100000 in
theorem c_X3_slopeOfFraction {U V : Type} [Lean.Grind.CommRing U] [Lean.Grind.CommRing V] {cu : U → Nat → FP} {ca : V → Nat → U} (HU : mp_P cu) (HA : mp_P ca) (l : Launch) {D : va_G} {ad : Nat → Nat} {cI cO : ClassId} {P : Nat → U} {T : zRest} {S : zS} (hR : zR cu P T S) {n : Int} (hn0 : 0 ≤ n) (hn1 : n < 120) {a b : V} (hel : zEl cu ca T.1 n a b) (hA : mp_sz cu (P 182) ≤ 13) (hB : mp_sz cu (P 183) ≤ 13) (hk : -2147483648 ≤ T.2.2 ∧ T.2.2 < 2147483648) : zMv l yX3_slopeOfFraction cX3_slopeOfFraction 2 3 D (zTy cI cO) 419 ad [.ref (ad 0), .int (iZ n)] (gC ad cI cO S) (gC ad cI cO) (fun u => ∃ P9, zR cu P9 T u ∧ zV ca P9 0 a ∧ zV ca P9 1 b ∧ zV ca P9 6 (zE cu ca P T a * b - zE cu ca P T b * a) ∧ (mp_sz ca (zE cu ca P T a * b - zE cu ca P T b * a) ≤ 13 ∧ mp_xz cu ca (zE cu ca P T a * b - zE cu ca P T b * a) ≤ 25) ∧ ∀ j, 91 ≤ j → P9 j = P j) := by
  obtain ⟨hBa, hBb⟩ := hel
  have zba : zb cu ca 7 a := hBa.2
  have zbb : zb cu ca 7 b := hBb.2
  have hEa := zE_b HU HA T.2.2 hA hB zba
  have hEb := zE_b HU HA T.2.2 hA hB zbb
  have m1 := zb_mul HU HA (m := 18) (n := 6) hEa zbb
  have m2 := zb_neg HU HA (zb_mul HU HA (m := 18) (n := 6) hEb zba)
  have m3 := zb_add HU HA m1 m2
  rw [show ∀ x y : V, x + -y = x - y from fun x y => by grind] at m3
  refine z_gov zm_X3_slopeOfFraction (Nat.le_of_ble_eq_true rfl) [(0, .ref (ad 0)), (1, .int (iZ (n)))] rfl (fun p e s m args below meth c A Q X E => ?_)
  refine z_aload_n X 0 rfl rfl dX3_slopeOfFraction_0 ?_
  refine z_iload_n X 1 rfl rfl dX3_slopeOfFraction_1 ?_
  refine z_iconst X (n := 0) dX3_slopeOfFraction_2 ?_
  refine z_aload_n X 0 rfl rfl dX3_slopeOfFraction_3 ?_
  refine z_get X zinX3 0 (by omega) gC_T (ci := 5) rfl 5 (by decide) (ref := "TowerFields") zw125 rfl rfl dX3_slopeOfFraction_4 ?_
  refine z_callVv X zm_X3_load zw386 zp8 zw384 (zFit_of (by decide) (by decide)) [.int (iZ (n)), .int (iZ (0)), .ref (ad (0 + 3))] (c_X3_load HU HA l hR (q := 0) (by omega) (a0 := n) (b0 := 0) (by omega) (by omega) (by omega) (by omega) (by simpa using hBa)) rfl rfl (Nat.le_of_ble_eq_true rfl) (by omega) gC_T (q := vwCl[5]) rfl rfl dX3_slopeOfFraction_7 (fun S1 R1 => ?_)
  obtain ⟨P1, eP1, vP1, kP1, fP1⟩ := zP_new ca P 0 (a) (Nat.le_trans hBa.2.1 (by omega))
  rw [← eP1] at R1
  refine z_aload_n X 0 rfl rfl dX3_slopeOfFraction_10 ?_
  refine z_iload_n X 1 rfl rfl dX3_slopeOfFraction_11 ?_
  refine z_iconst X (n := 1) dX3_slopeOfFraction_12 ?_
  refine z_aload_n X 0 rfl rfl dX3_slopeOfFraction_13 ?_
  refine z_get X zinX3 0 (by omega) gC_T (ci := 5) rfl 6 (by decide) (ref := "TowerFields") zw126 rfl rfl dX3_slopeOfFraction_14 ?_
  refine z_callVv X zm_X3_load zw386 zp8 zw384 (zFit_of (by decide) (by decide)) [.int (iZ (n)), .int (iZ (1)), .ref (ad (1 + 3))] (c_X3_load HU HA l R1 (q := 1) (by omega) (a0 := n) (b0 := 1) (by omega) (by omega) (by omega) (by omega) (by simpa using hBb)) rfl rfl (Nat.le_of_ble_eq_true rfl) (by omega) gC_T (q := vwCl[5]) rfl rfl dX3_slopeOfFraction_17 (fun S2 R2 => ?_)
  obtain ⟨P2, eP2, vP2, kP2, fP2⟩ := zP_new ca P1 1 (b) (Nat.le_trans hBb.2.1 (by omega))
  rw [← eP2] at R2
  have h2P2 : P2 182 = P 182 := by rw [fP2 182 (by omega), fP1 182 (by omega)]
  have h3P2 : P2 183 = P 183 := by rw [fP2 183 (by omega), fP1 183 (by omega)]
  have va2 := kP2 0 a (by omega) vP1
  refine z_aload_n X 0 rfl rfl dX3_slopeOfFraction_20 ?_
  refine z_aload_n X 0 rfl rfl dX3_slopeOfFraction_21 ?_
  refine z_get X zinX3 0 (by omega) gC_T (ci := 5) rfl 5 (by decide) (ref := "TowerFields") zw125 rfl rfl dX3_slopeOfFraction_22 ?_
  refine z_aload_n X 0 rfl rfl dX3_slopeOfFraction_25 ?_
  refine z_get X zinX3 0 (by omega) gC_T (ci := 5) rfl 9 (by decide) (ref := "TowerFields") zw129 rfl rfl dX3_slopeOfFraction_26 ?_
  refine z_callVv X zm_X3_slopeOfPoly zw394 zp10 zw392 (zFit_of (by decide) (by decide)) [.ref (ad (0 + 3)), .ref (ad (4 + 3))] (c_X3_slopeOfPoly HU HA l R2 (q := 0) (q9 := 4) (by omega) (by omega) (by omega) va2 zba (by rw [h2P2]; exact hA) (by rw [h3P2]; exact hB) hk) rfl rfl (Nat.le_of_ble_eq_true rfl) (by omega) gC_T (q := vwCl[5]) rfl rfl dX3_slopeOfFraction_29 (fun S3 R3 => ?_)
  rw [h2P2, h3P2] at R3
  obtain ⟨P3, eP3, vP3, kP3, fP3⟩ := zP_new ca P2 4 (md_E cu ca (P 183) (zW ca T.2.2 (P 182)) a) (Nat.le_trans hEa.1 (by omega))
  rw [← eP3] at R3
  have h2P3 : P3 182 = P 182 := by rw [fP3 182 (by omega), h2P2]
  have h3P3 : P3 183 = P 183 := by rw [fP3 183 (by omega), h3P2]
  have va3 := kP3 0 a (by omega) va2
  have vb3 := kP3 1 b (by omega) vP2
  refine z_aload_n X 0 rfl rfl dX3_slopeOfFraction_32 ?_
  refine z_aload_n X 0 rfl rfl dX3_slopeOfFraction_33 ?_
  refine z_get X zinX3 0 (by omega) gC_T (ci := 5) rfl 6 (by decide) (ref := "TowerFields") zw126 rfl rfl dX3_slopeOfFraction_34 ?_
  refine z_aload_n X 0 rfl rfl dX3_slopeOfFraction_37 ?_
  refine z_get X zinX3 0 (by omega) gC_T (ci := 5) rfl 10 (by decide) (ref := "TowerFields") zw130 rfl rfl dX3_slopeOfFraction_38 ?_
  refine z_callVv X zm_X3_slopeOfPoly zw394 zp10 zw392 (zFit_of (by decide) (by decide)) [.ref (ad (1 + 3)), .ref (ad (5 + 3))] (c_X3_slopeOfPoly HU HA l R3 (q := 1) (q9 := 5) (by omega) (by omega) (by omega) vb3 zbb (by rw [h2P3]; exact hA) (by rw [h3P3]; exact hB) hk) rfl rfl (Nat.le_of_ble_eq_true rfl) (by omega) gC_T (q := vwCl[5]) rfl rfl dX3_slopeOfFraction_41 (fun S4 R4 => ?_)
  rw [h2P3, h3P3] at R4
  obtain ⟨P4, eP4, vP4, kP4, fP4⟩ := zP_new ca P3 5 (md_E cu ca (P 183) (zW ca T.2.2 (P 182)) b) (Nat.le_trans hEb.1 (by omega))
  rw [← eP4] at R4
  have va4 := kP4 0 a (by omega) va3
  have vb4 := kP4 1 b (by omega) vb3
  have w4 := kP4 4 _ (by omega) vP3
  refine z_aload_n X 0 rfl rfl dX3_slopeOfFraction_44 ?_
  refine z_get X zinX3 0 (by omega) gC_T (ci := 5) rfl 11 (by decide) (ref := "TowerFields") zw131 rfl rfl dX3_slopeOfFraction_45 ?_
  refine z_callVv X zm_X2_clear zw286 zw287 zw285 (zFit_of (by decide) (by decide)) [] (c_X2_clear HU l R4 (q := 6) (by omega)) rfl rfl (Nat.le_of_ble_eq_true rfl) (by omega) (gC_P (by omega)) (q := vwCl[4]) rfl rfl dX3_slopeOfFraction_48 (fun S5 R5 => ?_)
  rw [pwn_zA HA] at R5
  obtain ⟨P5, eP5, vP5, kP5, fP5⟩ := zP_new ca P4 6 ((0 : V)) (zs0 HA)
  rw [← eP5] at R5
  have va5 := kP5 0 a (by omega) va4
  have vb5 := kP5 1 b (by omega) vb4
  have w45 := kP5 4 _ (by omega) w4
  have w55 := kP5 5 _ (by omega) vP4
  refine z_aload_n X 0 rfl rfl dX3_slopeOfFraction_51 ?_
  refine z_get X zinX3 0 (by omega) gC_T (ci := 5) rfl 11 (by decide) (ref := "TowerFields") zw131 rfl rfl dX3_slopeOfFraction_52 ?_
  refine z_aload_n X 0 rfl rfl dX3_slopeOfFraction_55 ?_
  refine z_get X zinX3 0 (by omega) gC_T (ci := 5) rfl 9 (by decide) (ref := "TowerFields") zw129 rfl rfl dX3_slopeOfFraction_56 ?_
  refine z_aload_n X 0 rfl rfl dX3_slopeOfFraction_59 ?_
  refine z_get X zinX3 0 (by omega) gC_T (ci := 5) rfl 6 (by decide) (ref := "TowerFields") zw126 rfl rfl dX3_slopeOfFraction_60 ?_
  refine z_iconst X (n := 1) dX3_slopeOfFraction_63 ?_
  refine z_eqi (b := vz (1 : FP)) rfl ?_
  refine z_callVv X zm_X2_plusProduct zw410 zw411 zw409 (zFit_of (by decide) (by decide)) [.ref (ad (4 + 3)), .ref (ad (1 + 3)), .int (iZ (vz (1 : FP)))] (c_X2_plusProduct HU HA l R5 (q := 6) (qa := 4) (qb := 1) (by omega) (by omega) (by omega) (by omega) (by omega) vP5 w45 vb5 (1) (by have := hEa.1; have := zbb.1; omega) (by have := hEa.2; have := zbb.2; omega)) rfl rfl (Nat.le_of_ble_eq_true rfl) (by omega) (gC_P (by omega)) (q := vwCl[4]) rfl rfl dX3_slopeOfFraction_64 (fun S6 R6 => ?_)
  rw [zpp1 HU HA] at R6
  obtain ⟨P6, eP6, vP6, kP6, fP6⟩ := zP_new ca P5 6 (md_E cu ca (P 183) (zW ca T.2.2 (P 182)) a * b) m1.1
  rw [← eP6] at R6
  have va6 := kP6 0 a (by omega) va5
  have vb6 := kP6 1 b (by omega) vb5
  have w56 := kP6 5 _ (by omega) w55
  refine z_aload_n X 0 rfl rfl dX3_slopeOfFraction_67 ?_
  refine z_get X zinX3 0 (by omega) gC_T (ci := 5) rfl 11 (by decide) (ref := "TowerFields") zw131 rfl rfl dX3_slopeOfFraction_68 ?_
  refine z_aload_n X 0 rfl rfl dX3_slopeOfFraction_71 ?_
  refine z_get X zinX3 0 (by omega) gC_T (ci := 5) rfl 10 (by decide) (ref := "TowerFields") zw130 rfl rfl dX3_slopeOfFraction_72 ?_
  refine z_aload_n X 0 rfl rfl dX3_slopeOfFraction_75 ?_
  refine z_get X zinX3 0 (by omega) gC_T (ci := 5) rfl 5 (by decide) (ref := "TowerFields") zw125 rfl rfl dX3_slopeOfFraction_76 ?_
  refine z_sipush X (n := 32002) (by decide) dX3_slopeOfFraction_79 ?_
  refine z_eqi (b := vz (-1 : FP)) rfl ?_
  refine z_callVv X zm_X2_plusProduct zw410 zw411 zw409 (zFit_of (by decide) (by decide)) [.ref (ad (5 + 3)), .ref (ad (0 + 3)), .int (iZ (vz (-1 : FP)))] (c_X2_plusProduct HU HA l R6 (q := 6) (qa := 5) (qb := 0) (by omega) (by omega) (by omega) (by omega) (by omega) vP6 w56 va6 ((-1)) (by have := hEb.1; have := zba.1; omega) (by have := hEb.2; have := zba.2; omega)) rfl rfl (Nat.le_of_ble_eq_true rfl) (by omega) (gC_P (by omega)) (q := vwCl[4]) rfl rfl dX3_slopeOfFraction_82 (fun S7 R7 => ?_)
  rw [zpm1 HU HA] at R7
  obtain ⟨P7, eP7, vP7, kP7, fP7⟩ := zP_new ca P6 6 (md_E cu ca (P 183) (zW ca T.2.2 (P 182)) a * b - md_E cu ca (P 183) (zW ca T.2.2 (P 182)) b * a) m3.1
  rw [← eP7] at R7
  exact E S7 ⟨P7, R7, kP7 0 _ (by omega) va6, kP7 1 _ (by omega) vb6, vP7, m3, fun j hj => by rw [fP7 j (by omega), fP6 j (by omega), fP5 j (by omega), fP4 j (by omega), fP3 j (by omega), fP2 j (by omega), fP1 j (by omega)]⟩ rfl dX3_slopeOfFraction_85
set_option maxHeartbeats 8000000 in
set_option maxRecDepth 100000 in
theorem c_X3_hasNoSlope {U V : Type} [Lean.Grind.CommRing U] [Lean.Grind.CommRing V] {cu : U → Nat → FP} {ca : V → Nat → U} (HU : mp_P cu) (HA : mp_P ca) (l : Launch) {D : va_G} {ad : Nat → Nat} {cI cO : ClassId} {P : Nat → U} {T : zRest} {S : zS} (hR : zR cu P T S) {n : Int} (hn0 : 0 ≤ n) (hn1 : n < 120) {a b : V} (hel : zEl cu ca T.1 n a b) (hA : mp_sz cu (P 182) ≤ 13) (hB : mp_sz cu (P 183) ≤ 13) (hk : -2147483648 ≤ T.2.2 ∧ T.2.2 < 2147483648) : zMi l yX3_hasNoSlope cX3_hasNoSlope 2 (some .boolean) 4 D (zTy cI cO) 419 ad [.ref (ad 0), .int (iZ n)] (gC ad cI cO S) (gC ad cI cO) (fun z u => z = @ite Int ((zE cu ca P T a * b - zE cu ca P T b * a) = 0) (Classical.propDecidable _) 1 0 ∧ ∃ P9, zR cu P9 T u ∧ zV ca P9 0 a ∧ zV ca P9 1 b ∧ zV ca P9 6 (zE cu ca P T a * b - zE cu ca P T b * a) ∧ (mp_sz ca (zE cu ca P T a * b - zE cu ca P T b * a) ≤ 13 ∧ mp_xz cu ca (zE cu ca P T a * b - zE cu ca P T b * a) ≤ 25) ∧ ∀ j, 91 ≤ j → P9 j = P j) := by
  refine z_goz zm_X3_hasNoSlope (Nat.le_of_ble_eq_true rfl) [(0, .ref (ad 0)), (1, .int (iZ (n)))] rfl (fun p e s m args below meth c A Q X E => ?_)
  refine z_aload_n X 0 rfl rfl dX3_hasNoSlope_0 ?_
  refine z_iload_n X 1 rfl rfl dX3_hasNoSlope_1 ?_
  refine z_callVv X zm_X3_slopeOfFraction zw382 zp7 zw380 (zFit_of (by decide) (by decide)) [.int (iZ (n))] (c_X3_slopeOfFraction HU HA l hR hn0 hn1 hel hA hB hk) rfl rfl (Nat.le_of_ble_eq_true rfl) (by omega) gC_T (q := vwCl[5]) rfl rfl dX3_hasNoSlope_2 (fun S1 hu1 => ?_)
  obtain ⟨P1, R1, v0, v1, v6, hb6, f1⟩ := hu1
  refine z_aload_n X 0 rfl rfl dX3_hasNoSlope_5 ?_
  refine z_get X zinX3 0 (by omega) gC_T (ci := 5) rfl 11 (by decide) (ref := "TowerFields") zw131 rfl rfl dX3_hasNoSlope_6 ?_
  refine z_callVi X zm_X2_isZero zw419 zw420 zw418 (zFit_of (by decide) (by decide)) [] (c_X2_isZero HU HA l R1 (q := 6) (by omega) v6) rfl rfl (Nat.le_of_ble_eq_true rfl) (by omega) (gC_P (by omega)) (q := vwCl[4]) rfl rfl dX3_hasNoSlope_9 (fun z _ hz => ?_)
  exact E S1 (by rw [hz]; split <;> omega) ⟨hz, P1, R1, v0, v1, v6, hb6, f1⟩ rfl dX3_hasNoSlope_12
set_option maxHeartbeats 8000000 in
set_option maxRecDepth 100000 in
theorem c_X3_slopeOverProduct {U V : Type} [Lean.Grind.CommRing U] [Lean.Grind.CommRing V] {cu : U → Nat → FP} {ca : V → Nat → U} (HU : mp_P cu) (HA : mp_P ca) (l : Launch) {D : va_G} {ad : Nat → Nat} {cI cO : ClassId} {P : Nat → U} {T : zRest} {S : zS} (hR : zR cu P T S) {qa qb : Nat} (hqa : qa < 4) (hqb : qb < 4) {a b : V} (hva : zV ca P qa a) (hvb : zV ca P qb b) (ha : zb cu ca 7 a) (hb : zb cu ca 7 b) (hB : mp_sz cu (P 183) ≤ 13) : zMv l yX3_slopeOverProduct cX3_slopeOverProduct 4 3 D (zTy cI cO) 419 ad [.ref (ad 0), .ref (ad (qa + 3)), .ref (ad (qb + 3))] (gC ad cI cO S) (gC ad cI cO) (fun u => ∃ P9, zR cu P9 T u ∧ zV ca P9 7 (mp_C ca (P 183) * (a * b)) ∧ ∀ j, (j < 52 ∨ (65 ≤ j ∧ j < 91) ∨ 104 ≤ j) → P9 j = P j) := by
  have mab := zb_mul HU HA (m := 6) (n := 6) ha hb
  refine z_gov zm_X3_slopeOverProduct (Nat.le_of_ble_eq_true rfl) [(0, .ref (ad 0)), (1, .ref (ad (qa + 3))), (2, .ref (ad (qb + 3)))] rfl (fun p e s m args below meth c A Q X E => ?_)
  refine z_aload_n X 0 rfl rfl dX3_slopeOverProduct_0 ?_
  refine z_get X zinX3 0 (by omega) gC_T (ci := 5) rfl 9 (by decide) (ref := "TowerFields") zw129 rfl rfl dX3_slopeOverProduct_1 ?_
  refine z_callVv X zm_X2_clear zw286 zw287 zw285 (zFit_of (by decide) (by decide)) [] (c_X2_clear HU l hR (q := 4) (by omega)) rfl rfl (Nat.le_of_ble_eq_true rfl) (by omega) (gC_P (by omega)) (q := vwCl[4]) rfl rfl dX3_slopeOverProduct_4 (fun S1 R1 => ?_)
  rw [pwn_zA HA] at R1
  obtain ⟨P1, eP1, vP1, kP1, fP1⟩ := zP_new ca P 4 ((0 : V)) (zs0 HA)
  rw [← eP1] at R1
  refine z_aload_n X 0 rfl rfl dX3_slopeOverProduct_7 ?_
  refine z_get X zinX3 0 (by omega) gC_T (ci := 5) rfl 9 (by decide) (ref := "TowerFields") zw129 rfl rfl dX3_slopeOverProduct_8 ?_
  refine z_aload_n X 1 rfl rfl dX3_slopeOverProduct_11 ?_
  refine z_aload_n X 2 rfl rfl dX3_slopeOverProduct_12 ?_
  refine z_iconst X (n := 1) dX3_slopeOverProduct_13 ?_
  refine z_eqi (b := vz (1 : FP)) rfl ?_
  refine z_callVv X zm_X2_plusProduct zw410 zw411 zw409 (zFit_of (by decide) (by decide)) [.ref (ad (qa + 3)), .ref (ad (qb + 3)), .int (iZ (vz (1 : FP)))] (c_X2_plusProduct HU HA l R1 (q := 4) (qa := qa) (qb := qb) (by omega) (by omega) (by omega) (by omega) (by omega) vP1 (kP1 qa a (by omega) hva) (kP1 qb b (by omega) hvb) (1) (by have := ha.1; have := hb.1; omega) (by have := ha.2; have := hb.2; omega)) rfl rfl (Nat.le_of_ble_eq_true rfl) (by omega) (gC_P (by omega)) (q := vwCl[4]) rfl rfl dX3_slopeOverProduct_14 (fun S2 R2 => ?_)
  rw [zpp1 HU HA] at R2
  obtain ⟨P2, eP2, vP2, kP2, fP2⟩ := zP_new ca P1 4 (a * b) mab.1
  rw [← eP2] at R2
  refine z_aload_n X 0 rfl rfl dX3_slopeOverProduct_17 ?_
  refine z_get X zinX3 0 (by omega) gC_T (ci := 5) rfl 12 (by decide) (ref := "TowerFields") zw132 rfl rfl dX3_slopeOverProduct_18 ?_
  refine z_callVv X zm_X2_clear zw286 zw287 zw285 (zFit_of (by decide) (by decide)) [] (c_X2_clear HU l R2 (q := 7) (by omega)) rfl rfl (Nat.le_of_ble_eq_true rfl) (by omega) (gC_P (by omega)) (q := vwCl[4]) rfl rfl dX3_slopeOverProduct_21 (fun S3 R3 => ?_)
  rw [pwn_zA HA] at R3
  obtain ⟨P3, eP3, vP3, kP3, fP3⟩ := zP_new ca P2 7 ((0 : V)) (zs0 HA)
  rw [← eP3] at R3
  have v43 := kP3 4 _ (by omega) vP2
  refine z_iconst X (n := 0) dX3_slopeOverProduct_24 ?_
  refine z_istore_n X [(3, .int (iZ (0))), (0, .ref (ad 0)), (1, .ref (ad (qa + 3))), (2, .ref (ad (qb + 3)))] rfl rfl (by decide) dX3_slopeOverProduct_25 ?_
  have loop : ∀ (n : Nat) (i : Int) (P4 : Nat → U) (S4 : zS), i + n = 13 → 0 ≤ i → zR cu P4 T S4 → (∀ j, (j < 91 ∨ 104 ≤ j) → P4 j = P3 j) → (∀ r, r < 13 → P4 (13 * 7 + r) = @ite U ((r : Int) < i) (Classical.propDecidable _) (P 183 * ca (a * b) r) 0) → Z p l e (zRm 3) s m args below meth c 4 D 419 ad A 0 0 Q 26 [(3, .int (iZ (i))), (0, .ref (ad 0)), (1, .ref (ad (qa + 3))), (2, .ref (ad (qb + 3)))] [] (gC ad cI cO S4) := by
    intro n
    induction n with
    | zero =>
      intro i P4 S4 h1 h2 h3 h4 h5
      refine z_iload_n X 0 rfl rfl dX3_slopeOverProduct_26 ?_
      refine z_bipush X (n := 13) (by decide) dX3_slopeOverProduct_27 ?_
      refine z_icmp_ge X (tgt := 62) (by omega) (by omega) dX3_slopeOverProduct_29 (by decide) (fun hb29 => ?_) (fun hb29 => absurd hb29 (by omega))
      have hv7 : zV ca P4 7 (mp_C ca (P 183) * (a * b)) := ⟨fun r hr => by rw [h5 r hr, if_pos (by omega), mp_C_mul HA], mp_sz_le HA (fun r hr => by rw [mp_C_mul HA, mp_sz_out HA (by have := mab.1; omega)]; grind)⟩
      exact E S4 ⟨P4, h3, hv7, fun j hj => by rw [h4 j (by omega), fP3 j (by omega), fP2 j (by omega), fP1 j (by omega)]⟩ rfl dX3_slopeOverProduct_62
    | succ n ih =>
      intro i P4 S4 h1 h2 h3 h4 h5
      have k4 : P4 (13 * 4 + (i).toNat) = ca (a * b) i.toNat := by rw [h4 _ (by omega)]; exact v43.1 _ (by omega)
      have k183 : P4 183 = P 183 := by rw [h4 183 (by omega), fP3 183 (by omega), fP2 183 (by omega), fP1 183 (by omega)]
      have hrw := Nat.le_trans (mp_xz_row HU HA (a * b) i.toNat) mab.2
      refine z_iload_n X 0 rfl rfl dX3_slopeOverProduct_26 ?_
      refine z_bipush X (n := 13) (by decide) dX3_slopeOverProduct_27 ?_
      refine z_icmp_ge X (tgt := 62) (by omega) (by omega) dX3_slopeOverProduct_29 (by decide) (fun hb29 => absurd hb29 (by omega)) (fun hb29 => ?_)
      refine z_aload_n X 1 rfl rfl dX3_slopeOverProduct_32 ?_
      refine z_get X zinX3 0 (by omega) gC_T (ci := 5) rfl 12 (by decide) (ref := "TowerFields") zw132 rfl rfl dX3_slopeOverProduct_33 ?_
      refine z_iload_n X 0 rfl rfl dX3_slopeOverProduct_36 ?_
      refine z_callVr X zm_X2_row zw113 zw114 zw112 (zFit_of (by decide) (by decide)) [.int (iZ (i))] (c_X2_row l S4 (q := 7) (by omega) (i := i) (by omega)) rfl rfl (Nat.le_of_ble_eq_true rfl) (by omega) (gC_P (by omega)) (q := vwCl[4]) rfl rfl dX3_slopeOverProduct_37 (fun j _ hz => ?_)
      have hj := zr_row hz (by omega) (by omega)
      subst hj
      refine z_aload_n X 1 rfl rfl dX3_slopeOverProduct_40 ?_
      refine z_get X zinX3 0 (by omega) gC_T (ci := 5) rfl 9 (by decide) (ref := "TowerFields") zw129 rfl rfl dX3_slopeOverProduct_41 ?_
      refine z_iload_n X 0 rfl rfl dX3_slopeOverProduct_44 ?_
      refine z_callVr X zm_X2_row zw113 zw114 zw112 (zFit_of (by decide) (by decide)) [.int (iZ (i))] (c_X2_row l S4 (q := 4) (by omega) (i := i) (by omega)) rfl rfl (Nat.le_of_ble_eq_true rfl) (by omega) (gC_P (by omega)) (q := vwCl[4]) rfl rfl dX3_slopeOverProduct_45 (fun j _ hz => ?_)
      have hj := zr_row hz (by omega) (by omega)
      subst hj
      refine z_aload_n X 1 rfl rfl dX3_slopeOverProduct_48 ?_
      refine z_get X zinX3 0 (by omega) gC_T (ci := 5) rfl 4 (by decide) (ref := "TowerFields") zw124 rfl rfl dX3_slopeOverProduct_49 ?_
      refine z_iconst X (n := 1) dX3_slopeOverProduct_52 ?_
      refine z_eqi (b := vz (1 : FP)) rfl ?_
      refine z_callVv X zm_X1_plusProduct zw406 zw407 zw405 (zFit_of (by decide) (by decide)) [.ref (ad (13 * 4 + (i).toNat + 31)), .ref (ad (183 + 31)), .int (iZ (vz (1 : FP)))] (c_X1_plusProduct HU l h3 (k := 13 * 7 + (i).toNat) (a := 13 * 4 + (i).toNat) (b := 183) (by omega) (by omega) (by omega) (by omega) (by omega) 1 (by rw [k4, k183]; omega)) rfl rfl (Nat.le_of_ble_eq_true rfl) (by omega) (gC_L (by omega)) (q := vwCl[3]) rfl rfl dX3_slopeOverProduct_53 (fun S5 R5 => ?_)
      rw [k4, k183] at R5
      refine z_iinc X [(3, .int (iZ (i + 1))), (0, .ref (ad 0)), (1, .ref (ad (qa + 3))), (2, .ref (ad (qb + 3)))] 0 rfl rfl (by decide) dX3_slopeOverProduct_56 ?_
      refine z_goto X (tgt := 26) dX3_slopeOverProduct_59 (by decide) ?_
      refine z_sub [0, 1, 2, 3] rfl (ih (i + 1) _ S5 (by omega) (by omega) R5 (fun j hj => by rw [va_up_ne _ _ (by omega)]; exact h4 j hj) (fun r hr => ?_))
      clear ih
      by_cases e1 : r = i.toNat
      · rw [e1, va_up_self, h5 _ (by omega), if_neg (by omega), if_pos (show ((i.toNat : Nat) : Int) < i + 1 by omega), mp_C_1 HU]
        grind
      · rw [va_up_ne _ _ (by omega), h5 r hr]
        by_cases e2 : (r : Int) < i
        · rw [if_pos e2, if_pos (show ((r : Nat) : Int) < i + 1 by omega)]
        · rw [if_neg e2, if_neg (show ¬ ((r : Nat) : Int) < i + 1 by omega)]
  exact z_sub [0, 1, 2, 3] rfl (loop 13 0 P3 S3 (by omega) (by omega) R3 (fun _ _ => rfl) (fun r hr => by rw [if_neg (by omega), vP3.1 r hr, mp_zero HA]))
set_option maxHeartbeats 8000000 in
set_option maxRecDepth 100000 in
theorem c_X3_keepSingle {U V : Type} [Lean.Grind.CommRing U] [Lean.Grind.CommRing V] {cu : U → Nat → FP} {ca : V → Nat → U} (HU : mp_P cu) (HA : mp_P ca) (l : Launch) {D : va_G} {ad : Nat → Nat} {cI cO : ClassId} {P : Nat → U} {T : zRest} {S : zS} (hR : zR cu P T S) {i j : Nat} (hi : i < 7) (hj : j < 7) (v : FP) (hone : zV ca P 8 (1 : V)) (hm0 : 0 ≤ T.2.1) (hm1 : T.2.1 < 120) : zMi l yX3_keepSingle cX3_keepSingle 4 (some .int) 2 D (zTy cI cO) 419 ad [.ref (ad 0), .int (iZ (i : Int)), .int (iZ (j : Int)), .int (iZ (vz v))] (gC ad cI cO S) (gC ad cI cO) (fun z u => z = T.2.1 ∧ ∃ (P9 : Nat → U) (f1 : Nat → FP), zR cu P9 (f1, T.2.1 + 1, T.2.2) u ∧ (∀ z : Nat, z < 98 * T.2.1 → f1 z = T.1 z) ∧ zEl cu ca f1 T.2.1 (mp_m ca (mp_m cu v j) i) (1 : V) ∧ ∀ j, (j < 78 ∨ 91 ≤ j) → P9 j = P j) := by
  have hM : zb cu ca 7 (mp_m ca (mp_m cu v j) i) := ⟨mp_sz_le HA (fun n hn => by rw [mp_m_cf HA, if_neg (by omega)]), mp_xz_le HU HA (fun n => mp_sz_le HU (fun k hk => by
    rw [mp_m_cf HA]
    split
    · rw [mp_m_cf HU, if_neg (by omega)]
    · rw [mp_zero HU]))⟩
  refine z_goi zm_X3_keepSingle (Nat.le_of_ble_eq_true rfl) [(0, .ref (ad 0)), (1, .int (iZ ((i : Int)))), (2, .int (iZ ((j : Int)))), (3, .int (iZ (vz v)))] rfl (fun p e s m args below meth c A Q X E => ?_)
  refine z_aload_n X 0 rfl rfl dX3_keepSingle_0 ?_
  refine z_get X zinX3 0 (by omega) gC_T (ci := 5) rfl 11 (by decide) (ref := "TowerFields") zw131 rfl rfl dX3_keepSingle_1 ?_
  refine z_callVv X zm_X2_clear zw286 zw287 zw285 (zFit_of (by decide) (by decide)) [] (c_X2_clear HU l hR (q := 6) (by omega)) rfl rfl (Nat.le_of_ble_eq_true rfl) (by omega) (gC_P (by omega)) (q := vwCl[4]) rfl rfl dX3_keepSingle_4 (fun S1 R1 => ?_)
  rw [pwn_zA HA] at R1
  obtain ⟨P1, eP1, vP1, kP1, fP1⟩ := zP_new ca P 6 ((0 : V)) (zs0 HA)
  rw [← eP1] at R1
  refine z_aload_n X 0 rfl rfl dX3_keepSingle_7 ?_
  refine z_get X zinX3 0 (by omega) gC_T (ci := 5) rfl 11 (by decide) (ref := "TowerFields") zw131 rfl rfl dX3_keepSingle_8 ?_
  refine z_iload_n X 1 rfl rfl dX3_keepSingle_11 ?_
  refine z_callVr X zm_X2_row zw113 zw114 zw112 (zFit_of (by decide) (by decide)) [.int (iZ ((i : Int)))] (c_X2_row l S1 (q := 6) (by omega) (i := (i : Int)) (by omega)) rfl rfl (Nat.le_of_ble_eq_true rfl) (by omega) (gC_P (by omega)) (q := vwCl[4]) rfl rfl dX3_keepSingle_12 (fun j _ hz => ?_)
  have hj := zr_row hz (by omega) (by omega)
  subst hj
  refine z_iload_n X 2 rfl rfl dX3_keepSingle_15 ?_
  refine z_iload_n X 3 rfl rfl dX3_keepSingle_16 ?_
  refine z_callVv X zm_X1_put zw117 zw118 zw116 (zFit_of (by decide) (by decide)) [.int (iZ ((j : Int))), .int (iZ (vz v))] (c_X1_put HU l R1 (k := 13 * 6 + ((i : Int)).toNat) (by omega) (i := (j : Int)) (by omega) (by omega) v) rfl rfl (Nat.le_of_ble_eq_true rfl) (by omega) (gC_L (by omega)) (q := vwCl[3]) rfl rfl dX3_keepSingle_17 (fun S2 R2 => ?_)
  obtain ⟨P2, hP2⟩ : ∃ P2, P2 = va_up P1 (13 * 6 + i) (pu cu (P1 (13 * 6 + i)) j v) := ⟨_, rfl⟩
  rw [show ((i : Int)).toNat = i by omega, show ((j : Int)).toNat = j by omega, ← hP2] at R2
  have hv2 : zV ca P2 6 (mp_m ca (mp_m cu v j) i) := by
    have h9 := zV_put HA vP1 (n := i) (by omega) (mp_m cu v j) (x := pu cu (P1 (13 * 6 + i)) j v) (by
      rw [vP1.1 i (by omega), mp_zero HA, pu, mp_zero HU, show v - (0 : FP) = v by grind])
    rw [hP2]
    rw [show (0 : V) + mp_m ca (mp_m cu v j) i = mp_m ca (mp_m cu v j) i by grind] at h9
    exact h9
  have hv28 : zV ca P2 8 (1 : V) := zV_eq (kP1 8 1 (by omega) hone) (fun i2 hi2 => by rw [hP2, va_up_ne _ _ (by omega)])
  have h1b : zb cu ca 7 (1 : V) := ⟨by rw [← mp_C_1 HA]; exact mp_sz_le HA (fun n hn => by rw [mp_C_cf HA, if_neg (by omega)]), by rw [← mp_C_1 HA, mp_xz_C HU HA, ← mp_C_1 HU]; exact mp_sz_le HU (fun n hn => by rw [mp_C_cf HU, if_neg (by omega)])⟩
  refine z_aload_n X 0 rfl rfl dX3_keepSingle_20 ?_
  refine z_aload_n X 0 rfl rfl dX3_keepSingle_21 ?_
  refine z_get X zinX3 0 (by omega) gC_T (ci := 5) rfl 11 (by decide) (ref := "TowerFields") zw131 rfl rfl dX3_keepSingle_22 ?_
  refine z_aload_n X 0 rfl rfl dX3_keepSingle_25 ?_
  refine z_get X zinX3 0 (by omega) gC_T (ci := 5) rfl 13 (by decide) (ref := "TowerFields") zw133 rfl rfl dX3_keepSingle_26 ?_
  refine z_callVi X zm_X3_keep zw295 zp3 zw293 (zFit_of (by decide) (by decide)) [.ref (ad (6 + 3)), .ref (ad (8 + 3))] (c_X3_keep HU HA l R2 (q1 := 6) (q2 := 8) (by omega) (by omega) hv2 hv28 hM h1b hm0 hm1) rfl rfl (Nat.le_of_ble_eq_true rfl) (by omega) gC_T (q := vwCl[5]) rfl rfl dX3_keepSingle_29 (fun z S3 hu3 => ?_)
  obtain ⟨hz, f3, R3, g1, g2, g3⟩ := hu3
  subst hz
  exact E S3 ⟨rfl, P2, f3, R3, g1, ⟨by rw [show (98 * T.2.1 + 49 * 0).toNat = (98 * T.2.1).toNat by omega]; exact g2, by rw [show (98 * T.2.1 + 49 * 1).toNat = (98 * T.2.1).toNat + 49 by omega]; exact g3⟩, fun j2 hj2 => by rw [hP2, va_up_ne _ _ (by omega), fP1 j2 (by omega)]⟩ rfl dX3_keepSingle_32
