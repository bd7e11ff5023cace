section
variable {U V : Type}
theorem zV_zb [Lean.Grind.CommRing U] [Lean.Grind.CommRing V] {cu : U → Nat → FP} {ca : V → Nat → U} (HU : mp_P cu) (HA : mp_P ca) {f a : V} (h : mp_D f a) (ha : a ≠ 0) (hb : zb cu ca 7 a) : zb cu ca 7 f := ⟨Nat.le_trans (mp_D_sz HA (mp_dom HU (mp_Fd_nz mp_FP)) h ha) hb.1, Nat.le_trans (mp_D_sz (mp_sw_P HU HA) (mp_dom HU (mp_Fd_nz mp_FP)) h ha) hb.2⟩
theorem zb_one [Lean.Grind.CommRing U] [Lean.Grind.CommRing V] {cu : U → Nat → FP} {ca : V → Nat → U} (HU : mp_P cu) (HA : mp_P ca) : zb cu ca 7 (1 : V) := ⟨by rw [← mp_C_1 HA]; exact mp_sz_le HA (fun n hn => by rw [mp_C_cf HA, if_neg (by omega)]), by rw [← mp_C_1 HA, mp_xz_C HU HA, ← mp_C_1 HU]; exact mp_sz_le HU (fun n hn => by rw [mp_C_cf HU, if_neg (by omega)])⟩
end
set_option maxHeartbeats 8000000 in
set_option maxRecDepth 100000 in
theorem c_X3_common {U V : Type} [Lean.Grind.CommRing U] [Lean.Grind.CommRing V] {cu : U → Nat → FP} {ca : V → Nat → U} (HU : mp_P cu) (HA : mp_P ca) (l : Launch) (hl9 : l.stackTraces = false) {D : va_G} {ad sa : Nat → Nat} {cI cO : ClassId} {EL : Int → V × V} {md kd : Int} {sA sB : U} {S : zS} (hC : zC cu ca EL md kd sA sB S) {n1 n2 : Int} (hn1 : -2147483648 ≤ n1 ∧ n1 < 2147483648) (hn2 : -2147483648 ≤ n2 ∧ n2 < 2147483648) : zTi l yX3_common cX3_common 3 (some .int) 8 4 D (zTy cI cO) 419 ad sa [.ref (ad 0), .int (iZ n1), .int (iZ n2)] (gC ad cI cO S) (gC ad cI cO) (fun z u => (0 ≤ n1 ∧ n1 < md) ∧ (0 ≤ n2 ∧ n2 < md) ∧ md < 120 ∧ z = md ∧ ∃ f : V, zC cu ca (zUp EL md (f, 1)) (md + 1) kd sA sB u ∧ (((EL n1).1 = 0 ∧ (EL n2).1 = 0 ∧ f = 0) ∨ (mp_lc cu (mp_lc ca f) = 1 ∧ ∃ x y, (EL n1).1 = f * x ∧ (EL n2).1 = f * y ∧ mp_Cp x y))) (fun E u => zC cu ca EL md kd sA sB u ∧ ((E = "java/lang/IndexOutOfBoundsException" ∧ ¬ ((0 ≤ n1 ∧ n1 < md) ∧ (0 ≤ n2 ∧ n2 < md))) ∨ (E = "java/lang/IllegalStateException" ∧ ((0 ≤ n1 ∧ n1 < md) ∧ (0 ≤ n2 ∧ n2 < md)) ∧ ¬ md < 120))) := by
  obtain ⟨P, T, hR, hEL, hmd, hkd, h182, h183, hone, hnf, hsA, hsB, hkb⟩ := hC
  have hrec := And.intro hEL (And.intro hmd (And.intro hkd (And.intro h182 (And.intro h183 (And.intro hone (And.intro hnf (And.intro hsA (And.intro hsB hkb))))))))
  have hC0 : zC cu ca EL md kd sA sB S := ⟨P, T, hR, hEL, hmd, hkd, h182, h183, hone, hnf, hsA, hsB, hkb⟩
  have hm0 := hEL.1
  have hm1 := hEL.2.1
  have hS1 : S.2.2.2.2.1 = T.2.1 := by rw [hR.2.2.2.2.2]
  have hS2 : S.2.2.2.2.2 = T.2.2 := by rw [hR.2.2.2.2.2]
  refine z_goti zm_X3_common (Nat.le_of_ble_eq_true rfl) [(0, .ref (ad 0)), (1, .int (iZ (n1))), (2, .int (iZ (n2)))] rfl (fun p e s m args below meth c A X XX ht E => ?_)
  refine z_aload_n X 0 rfl rfl dX3_common_0 ?_
  refine z_iload_n X 1 rfl rfl dX3_common_1 ?_
  refine z_iload_n X 2 rfl rfl dX3_common_2 ?_
  refine z_callVvT X XX ht zm_X3_takeTwo zw552 zp21 zw550 (zFitX_of (by decide) (by decide) (by decide) (by decide)) [.int (iZ (n1)), .int (iZ (n2))] (c_X3_takeTwo HU HA l hl9 hR hEL hn1 hn2) rfl rfl (Nat.le_of_ble_eq_true rfl) (by omega) gC_T (q := vwCl[5]) rfl rfl dX3_common_3 (fun E u h => ⟨u, ⟨by rw [h.1]; exact hC0, h.2.elim (fun q => Or.inl ⟨q.1, fun q9 => q.2 ⟨⟨q9.1.1, by have := q9.1.2; omega⟩, ⟨q9.2.1, by have := q9.2.2; omega⟩⟩⟩) (fun q => Or.inr (⟨q.1, ⟨⟨q.2.1.1, by have := q.2.1.2; omega⟩, ⟨q.2.2.1.1, by have := q.2.2.1.2; omega⟩⟩, by have := q.2.2.2; omega⟩))⟩, rfl⟩) (by decide) (by decide) (fun S1 hu1 => ?_)
  obtain ⟨hd1, hd2, hroom, P1, R1, v0, v1, v2, v3, f1⟩ := hu1
  obtain ⟨hBa, hBb⟩ := hEL.2.2 n1 hd1.1 hd1.2
  obtain ⟨hBc, hBd⟩ := hEL.2.2 n2 hd2.1 hd2.2
  have zba : zb cu ca 7 (EL n1).1 := hBa.2
  have zbb : zb cu ca 7 (EL n1).2 := hBb.2
  have zbc : zb cu ca 7 (EL n2).1 := hBc.2
  have zbd : zb cu ca 7 (EL n2).2 := hBd.2
  have hAd := mp_dom HA (mp_dom HU (mp_Fd_nz mp_FP))
  have nb := zNf_ne HU HA (hnf n1 hd1.1 (by have := hd1.2; omega))
  have nd := zNf_ne HU HA (hnf n2 hd2.1 (by have := hd2.2; omega))
  have e1 : 0 ≤ n1 ∧ n1 < md := ⟨hd1.1, by have := hd1.2; omega⟩
  have e2 : 0 ≤ n2 ∧ n2 < md := ⟨hd2.1, by have := hd2.2; omega⟩
  refine z_aload_n X 0 rfl rfl dX3_common_6 ?_
  refine z_get X zinX3 0 (by omega) gC_T (ci := 5) rfl 14 (by decide) (ref := "TowerFields") zw134 rfl rfl dX3_common_7 ?_
  refine z_aload_n X 0 rfl rfl dX3_common_10 ?_
  refine z_get X zinX3 0 (by omega) gC_T (ci := 5) rfl 5 (by decide) (ref := "TowerFields") zw125 rfl rfl dX3_common_11 ?_
  refine z_aload_n X 0 rfl rfl dX3_common_14 ?_
  refine z_get X zinX3 0 (by omega) gC_T (ci := 5) rfl 7 (by decide) (ref := "TowerFields") zw127 rfl rfl dX3_common_15 ?_
  refine z_callVv X zm_X0_find zw428 zw429 zw427 (zFitN_of (by decide) (by decide) (by decide) (by decide)) [.ref (ad (0 + 3)), .ref (ad (2 + 3))] (c_X0_find HU HA l R1 (q1 := 0) (q2 := 2) (by omega) (by omega) v0 v2 (by have := zba.2; omega) (by have := zbc.2; omega)) rfl rfl (Nat.le_of_ble_eq_true rfl) (by omega) gC_D (q := vwCl[2]) rfl rfl dX3_common_18 (fun S2 hu2 => ?_)
  obtain ⟨P2, R2, f2, f, hf, ho⟩ := hu2
  have hone2 : zV ca P2 8 (1 : V) := zV_eq hone (fun i hi => by rw [f2 _ (by omega), f1 _ (by omega)])
  have hfb : zb cu ca 7 f := by
    rcases ho with ⟨q1, q2, q3⟩ | ⟨q1, x, y, hx, hy, ex, ey, hcp⟩
    · rw [q3]; exact ⟨by rw [(mp_sz_0 HA).mpr rfl]; omega, by rw [show mp_xz cu ca (0 : V) = 0 from (mp_sz_0 (mp_sw_P HU HA)).mpr rfl]; omega⟩
    · by_cases ha : (EL n1).1 = 0
      · by_cases hc : (EL n2).1 = 0
        · exfalso
          have hf0 : f ≠ 0 := fun z => by
            rw [z, show mp_lc ca (0 : V) = 0 from mp_zero HA _, show mp_lc cu (0 : U) = 0 from mp_zero HU _] at q1
            exact mp_FP.2 q1.symm
          have hx0 : x = 0 := mp_cancel hAd hf0 (by rw [← ex, ha]; grind)
          have hy0 : y = 0 := mp_cancel hAd hf0 (by rw [← ey, hc]; grind)
          obtain ⟨t, ht2⟩ := hcp 0 (by rw [hx0]; exact mp_D_0 _) (by rw [hy0]; exact mp_D_0 _)
          exact hAd.2 (by rw [← ht2]; grind)
        · exact zV_zb HU HA ⟨y, ey⟩ hc zbc
      · exact zV_zb HU HA ⟨x, ex⟩ ha zba
  refine z_aload_n X 0 rfl rfl dX3_common_21 ?_
  refine z_aload_n X 0 rfl rfl dX3_common_22 ?_
  refine z_get X zinX3 0 (by omega) gC_T (ci := 5) rfl 14 (by decide) (ref := "TowerFields") zw134 rfl rfl dX3_common_23 ?_
  refine z_get X zinX0 2 (by omega) gC_D (ci := 2) rfl 0 (by decide) (ref := "TowerFields$Divisor") zw64 rfl rfl dX3_common_26 ?_
  refine z_aload_n X 0 rfl rfl dX3_common_29 ?_
  refine z_get X zinX3 0 (by omega) gC_T (ci := 5) rfl 13 (by decide) (ref := "TowerFields") zw133 rfl rfl dX3_common_30 ?_
  refine z_callVi X zm_X3_keep zw295 zp3 zw293 (zFitN_of (by decide) (by decide) (by decide) (by decide)) [.ref (ad (9 + 3)), .ref (ad (8 + 3))] (c_X3_keep HU HA l R2 (q1 := 9) (q2 := 8) (by omega) (by omega) hf hone2 hfb (zb_one HU HA) hm0 hroom) rfl rfl (Nat.le_of_ble_eq_true rfl) (by omega) gC_T (q := vwCl[5]) rfl rfl dX3_common_33 (fun z S9 hu9 => ?_)
  obtain ⟨hz, f9, R9, g1, g2, g3⟩ := hu9
  subst hz
  exact E S9 (by decide) (by decide) ⟨e1, e2, by omega, hmd, f, zC_add hrec R9 hroom g1 ⟨by rw [show (98 * T.2.1 + 49 * 0).toNat = (98 * T.2.1).toNat by omega]; exact g2, by rw [show (98 * T.2.1 + 49 * 1).toNat = (98 * T.2.1).toNat + 49 by omega]; exact g3⟩ (zNf_one HU HA f) (fun j hj => by rw [f2 j (by omega), f1 j (by omega)]), by
    rcases ho with q | ⟨q1, x, y, hx, hy, ex, ey, hcp⟩
    · exact Or.inl q
    · exact Or.inr ⟨q1, x, y, ex, ey, hcp⟩⟩ rfl dX3_common_36
set_option maxHeartbeats 8000000 in
set_option maxRecDepth 100000 in
theorem c_X3_count (l : Launch) {D : va_G} {ad : Nat → Nat} {cI cO : ClassId} (S : zS) {md : Int} (hmd : S.2.2.2.2.1 = md) : zMi l yX3_count cX3_count 1 (some .int) 0 D (zTy cI cO) 419 ad [.ref (ad 0)] (gC ad cI cO S) (fun _ : Unit => gC ad cI cO S) (fun z _ => z = md) := by
  subst hmd
  refine z_goi zm_X3_count (Nat.le_of_ble_eq_true rfl) [(0, .ref (ad 0))] rfl (fun p e s m args below meth c A Q X E => ?_)
  refine z_aload_n X 0 rfl rfl dX3_count_0 ?_
  refine z_get X zinX3 0 (by omega) gC_T (ci := 5) rfl 1 (by decide) (ref := "TowerFields") zw121 rfl rfl dX3_count_1 ?_
  refine z_eqi (b := S.2.2.2.2.1) rfl ?_
  exact E () rfl rfl dX3_count_4
