section
variable {U V : Type}
/-- the elements made, by their numbers -/
def zEls [Lean.Grind.CommRing U] [Lean.Grind.CommRing V] (cu : U → Nat → FP) (ca : V → Nat → U) (T : zRest) (EL : Int → V × V) : Prop := 0 ≤ T.2.1 ∧ T.2.1 ≤ 120 ∧ ∀ n, 0 ≤ n → n < T.2.1 → zEl cu ca T.1 n (EL n).1 (EL n).2
/-- n is an element's handle -/
def zHd (T : zRest) (n : Int) : Prop := 0 ≤ n ∧ n < T.2.1
end
set_option maxHeartbeats 8000000 in
set_option maxRecDepth 100000 in
theorem c_X3_takeTwo {U V : Type} [Lean.Grind.CommRing U] [Lean.Grind.CommRing V] {cu : U → Nat → FP} {ca : V → Nat → U} (HU : mp_P cu) (HA : mp_P ca) (l : Launch) (hl9 : l.stackTraces = false) {D : va_G} {ad sa : Nat → Nat} {cI cO : ClassId} {P : Nat → U} {T : zRest} {S : zS} (hR : zR cu P T S) {EL : Int → V × V} (hEL : zEls cu ca T EL) {n1 n2 : Int} (hn1 : -2147483648 ≤ n1 ∧ n1 < 2147483648) (hn2 : -2147483648 ≤ n2 ∧ n2 < 2147483648) : zTv l yX3_takeTwo cX3_takeTwo 3 7 3 D (zTy cI cO) 419 ad sa [.ref (ad 0), .int (iZ n1), .int (iZ n2)] (gC ad cI cO S) (gC ad cI cO) (fun u => zHd T n1 ∧ zHd T n2 ∧ T.2.1 < 120 ∧ ∃ P9, zR cu P9 T u ∧ zV ca P9 0 (EL n1).1 ∧ zV ca P9 1 (EL n1).2 ∧ zV ca P9 2 (EL n2).1 ∧ zV ca P9 3 (EL n2).2 ∧ ∀ j, 52 ≤ j → P9 j = P j) (fun E u => u = S ∧ ((E = "java/lang/IndexOutOfBoundsException" ∧ ¬ (zHd T n1 ∧ zHd T n2)) ∨ (E = "java/lang/IllegalStateException" ∧ zHd T n1 ∧ zHd T n2 ∧ ¬ T.2.1 < 120))) := by
  obtain ⟨hm0, hm1, hel⟩ := hEL
  have hmd : S.2.2.2.2.1 = T.2.1 := by rw [hR.2.2.2.2.2]
  refine z_gotv zm_X3_takeTwo (Nat.le_of_ble_eq_true rfl) [(0, .ref (ad 0)), (1, .int (iZ (n1))), (2, .int (iZ (n2)))] rfl (fun p e s m args below meth c A X XX ht E => ?_)
  refine z_aload_n X 0 rfl rfl dX3_takeTwo_0 ?_
  refine z_iload_n X 1 rfl rfl dX3_takeTwo_1 ?_
  refine z_callVvT X XX ht zm_X3_requireElement zw344 zp5 zw342 (zFitX_of (by decide) (by decide) (by decide) (by decide)) [.int (iZ (n1))] (c_X3_requireElement l hl9 S hn1 hmd ⟨hm0, hm1⟩) rfl rfl (Nat.le_of_ble_eq_true rfl) (by omega) gC_T (q := vwCl[5]) rfl rfl dX3_takeTwo_2 (fun E _ h => ⟨S, ⟨rfl, Or.inl ⟨h.1, fun q => h.2 q.1⟩⟩, rfl⟩) (by decide) (by decide) (fun u hhn1 => ?_)
  refine z_aload_n X 0 rfl rfl dX3_takeTwo_5 ?_
  refine z_iload_n X 2 rfl rfl dX3_takeTwo_6 ?_
  refine z_callVvT X XX ht zm_X3_requireElement zw344 zp5 zw342 (zFitX_of (by decide) (by decide) (by decide) (by decide)) [.int (iZ (n2))] (c_X3_requireElement l hl9 S hn2 hmd ⟨hm0, hm1⟩) rfl rfl (Nat.le_of_ble_eq_true rfl) (by omega) gC_T (q := vwCl[5]) rfl rfl dX3_takeTwo_7 (fun E _ h => ⟨S, ⟨rfl, Or.inl ⟨h.1, fun q => h.2 q.2⟩⟩, rfl⟩) (by decide) (by decide) (fun u hhn2 => ?_)
  refine z_aload_n X 0 rfl rfl dX3_takeTwo_10 ?_
  refine z_callVvT X XX ht zm_X3_requireRoom zw253 zp1 zw251 (zFitX_of (by decide) (by decide) (by decide) (by decide)) [] (c_X3_requireRoom l hl9 S hmd ⟨hm0, hm1⟩) rfl rfl (Nat.le_of_ble_eq_true rfl) (by omega) gC_T (q := vwCl[5]) rfl rfl dX3_takeTwo_11 (fun E _ h => ⟨S, ⟨rfl, Or.inr ⟨h.1, hhn1, hhn2, h.2⟩⟩, rfl⟩) (by decide) (by decide) (fun u hhr => ?_)
  obtain ⟨hBa, hBb⟩ := hel n1 hhn1.1 hhn1.2
  obtain ⟨hBc, hBd⟩ := hel n2 hhn2.1 hhn2.2
  refine z_aload_n X 0 rfl rfl dX3_takeTwo_14 ?_
  refine z_iload_n X 1 rfl rfl dX3_takeTwo_15 ?_
  refine z_iconst X (n := 0) dX3_takeTwo_16 ?_
  refine z_aload_n X 0 rfl rfl dX3_takeTwo_17 ?_
  refine z_get X zinX3 0 (by omega) gC_T (ci := 5) rfl 5 (by decide) (ref := "TowerFields") zw125 rfl rfl dX3_takeTwo_18 ?_
  refine z_callVv X zm_X3_load zw386 zp8 zw384 (zFitN_of (by decide) (by decide) (by decide) (by decide)) [.int (iZ (n1)), .int (iZ (0)), .ref (ad (0 + 3))] (c_X3_load HU HA l hR (q := 0) (by omega) (a0 := n1) (b0 := 0) (by omega) (by omega) (by omega) (by omega) hBa) rfl rfl (Nat.le_of_ble_eq_true rfl) (by omega) gC_T (q := vwCl[5]) rfl rfl dX3_takeTwo_21 (fun S1 R1 => ?_)
  obtain ⟨P1, eP1, vP1, kP1, fP1⟩ := zP_new ca P 0 ((EL n1).1) (Nat.le_trans hBa.2.1 (by omega))
  rw [← eP1] at R1
  refine z_aload_n X 0 rfl rfl dX3_takeTwo_24 ?_
  refine z_iload_n X 1 rfl rfl dX3_takeTwo_25 ?_
  refine z_iconst X (n := 1) dX3_takeTwo_26 ?_
  refine z_aload_n X 0 rfl rfl dX3_takeTwo_27 ?_
  refine z_get X zinX3 0 (by omega) gC_T (ci := 5) rfl 6 (by decide) (ref := "TowerFields") zw126 rfl rfl dX3_takeTwo_28 ?_
  refine z_callVv X zm_X3_load zw386 zp8 zw384 (zFitN_of (by decide) (by decide) (by decide) (by decide)) [.int (iZ (n1)), .int (iZ (1)), .ref (ad (1 + 3))] (c_X3_load HU HA l R1 (q := 1) (by omega) (a0 := n1) (b0 := 1) (by omega) (by omega) (by omega) (by omega) hBb) rfl rfl (Nat.le_of_ble_eq_true rfl) (by omega) gC_T (q := vwCl[5]) rfl rfl dX3_takeTwo_31 (fun S2 R2 => ?_)
  obtain ⟨P2, eP2, vP2, kP2, fP2⟩ := zP_new ca P1 1 ((EL n1).2) (Nat.le_trans hBb.2.1 (by omega))
  rw [← eP2] at R2
  refine z_aload_n X 0 rfl rfl dX3_takeTwo_34 ?_
  refine z_iload_n X 2 rfl rfl dX3_takeTwo_35 ?_
  refine z_iconst X (n := 0) dX3_takeTwo_36 ?_
  refine z_aload_n X 0 rfl rfl dX3_takeTwo_37 ?_
  refine z_get X zinX3 0 (by omega) gC_T (ci := 5) rfl 7 (by decide) (ref := "TowerFields") zw127 rfl rfl dX3_takeTwo_38 ?_
  refine z_callVv X zm_X3_load zw386 zp8 zw384 (zFitN_of (by decide) (by decide) (by decide) (by decide)) [.int (iZ (n2)), .int (iZ (0)), .ref (ad (2 + 3))] (c_X3_load HU HA l R2 (q := 2) (by omega) (a0 := n2) (b0 := 0) (by omega) (by omega) (by omega) (by omega) hBc) rfl rfl (Nat.le_of_ble_eq_true rfl) (by omega) gC_T (q := vwCl[5]) rfl rfl dX3_takeTwo_41 (fun S3 R3 => ?_)
  obtain ⟨P3, eP3, vP3, kP3, fP3⟩ := zP_new ca P2 2 ((EL n2).1) (Nat.le_trans hBc.2.1 (by omega))
  rw [← eP3] at R3
  refine z_aload_n X 0 rfl rfl dX3_takeTwo_44 ?_
  refine z_iload_n X 2 rfl rfl dX3_takeTwo_45 ?_
  refine z_iconst X (n := 1) dX3_takeTwo_46 ?_
  refine z_aload_n X 0 rfl rfl dX3_takeTwo_47 ?_
  refine z_get X zinX3 0 (by omega) gC_T (ci := 5) rfl 8 (by decide) (ref := "TowerFields") zw128 rfl rfl dX3_takeTwo_48 ?_
  refine z_callVv X zm_X3_load zw386 zp8 zw384 (zFitN_of (by decide) (by decide) (by decide) (by decide)) [.int (iZ (n2)), .int (iZ (1)), .ref (ad (3 + 3))] (c_X3_load HU HA l R3 (q := 3) (by omega) (a0 := n2) (b0 := 1) (by omega) (by omega) (by omega) (by omega) hBd) rfl rfl (Nat.le_of_ble_eq_true rfl) (by omega) gC_T (q := vwCl[5]) rfl rfl dX3_takeTwo_51 (fun S4 R4 => ?_)
  obtain ⟨P4, eP4, vP4, kP4, fP4⟩ := zP_new ca P3 3 ((EL n2).2) (Nat.le_trans hBd.2.1 (by omega))
  rw [← eP4] at R4
  exact E S4 (by decide) (by decide) ⟨hhn1, hhn2, hhr, P4, R4, kP4 0 _ (by omega) (kP3 0 _ (by omega) (kP2 0 _ (by omega) vP1)), kP4 1 _ (by omega) (kP3 1 _ (by omega) vP2), kP4 2 _ (by omega) vP3, vP4, fun j hj => by rw [fP4 j (by omega), fP3 j (by omega), fP2 j (by omega), fP1 j (by omega)]⟩ rfl dX3_takeTwo_54
set_option maxHeartbeats 8000000 in
set_option maxRecDepth 100000 in
theorem c_X3_keepLowest {U V : Type} [Lean.Grind.CommRing U] [Lean.Grind.CommRing V] {cu : U → Nat → FP} {ca : V → Nat → U} (HU : mp_P cu) (HA : mp_P ca) (l : Launch) (hl9 : l.stackTraces = false) {D : va_G} {ad sa : Nat → Nat} {cI cO : ClassId} {P : Nat → U} {T : zRest} {S : zS} (hR : zR cu P T S) {a b : V} (hva : zV ca P 6 a) (hvb : zV ca P 7 b) (hb0 : b ≠ 0) (hxa : mp_xz cu ca a ≤ 26) (hxb : mp_xz cu ca b ≤ 26) (hm0 : 0 ≤ T.2.1) (hm1 : T.2.1 < 120) : zTi l yX3_keepLowest cX3_keepLowest 4 (some .int) 7 1 D (zTy cI cO) 419 ad sa [.ref (ad 0)] (gC ad cI cO S) (gC ad cI cO) (fun z u => z = T.2.1 ∧ ∃ (P9 : Nat → U) (f9 : Nat → FP) (p q : V), zR cu P9 (f9, T.2.1 + 1, T.2.2) u ∧ (∀ z : Nat, z < 98 * T.2.1 → f9 z = T.1 z) ∧ zEl cu ca f9 T.2.1 p q ∧ (∀ j, (j < 117 ∨ j = 182 ∨ j = 183) → P9 j = P j) ∧ ∃ g, a = g * p ∧ b = g * q ∧ mp_Cp p q ∧ mp_lc cu (mp_lc ca q) = 1) (fun E u => E = "java/lang/IllegalStateException" ∧ ∃ (P9 : Nat → U) (p q : V), zR cu P9 T u ∧ (∀ j, (j < 117 ∨ j = 182 ∨ j = 183) → P9 j = P j) ∧ (∃ g, a = g * p ∧ b = g * q ∧ mp_Cp p q ∧ mp_lc cu (mp_lc ca q) = 1) ∧ ¬ ((mp_sz ca p ≤ 7 ∧ mp_xz cu ca p ≤ 7) ∧ (mp_sz ca q ≤ 7 ∧ mp_xz cu ca q ≤ 7))) := by
  refine z_goti zm_X3_keepLowest (Nat.le_of_ble_eq_true rfl) [(0, .ref (ad 0))] rfl (fun p e s m args below meth c A X XX ht E => ?_)
  refine z_aload_n X 0 rfl rfl dX3_keepLowest_0 ?_
  refine z_get X zinX3 0 (by omega) gC_T (ci := 5) rfl 14 (by decide) (ref := "TowerFields") zw134 rfl rfl dX3_keepLowest_1 ?_
  refine z_aload_n X 0 rfl rfl dX3_keepLowest_4 ?_
  refine z_get X zinX3 0 (by omega) gC_T (ci := 5) rfl 11 (by decide) (ref := "TowerFields") zw131 rfl rfl dX3_keepLowest_5 ?_
  refine z_aload_n X 0 rfl rfl dX3_keepLowest_8 ?_
  refine z_get X zinX3 0 (by omega) gC_T (ci := 5) rfl 12 (by decide) (ref := "TowerFields") zw132 rfl rfl dX3_keepLowest_9 ?_
  refine z_callVv X zm_X0_find zw428 zw429 zw427 (zFitN_of (by decide) (by decide) (by decide) (by decide)) [.ref (ad (6 + 3)), .ref (ad (7 + 3))] (c_X0_find HU HA l hR (q1 := 6) (q2 := 7) (by omega) (by omega) hva hvb hxa hxb) rfl rfl (Nat.le_of_ble_eq_true rfl) (by omega) gC_D (q := vwCl[2]) rfl rfl dX3_keepLowest_12 (fun S1 hu1 => ?_)
  obtain ⟨P1, R1, f1, f, hf, ho⟩ := hu1
  obtain ⟨hl1, x, y, hx, hy, ex, ey, hcp⟩ := ho.resolve_left (fun q => hb0 q.2.1)
  have hy0 : y ≠ 0 := fun z => hb0 (by rw [ey, z]; grind)
  obtain ⟨l1, l2, l3, l4, l5⟩ := zd_lclc HU HA hy0
  obtain ⟨v, hvd⟩ : ∃ v : FP, v = mf_inv (mp_lc cu (mp_lc ca y)) := ⟨_, rfl⟩
  rw [← hvd] at l1 l3 l4 l5
  refine z_aload_n X 0 rfl rfl dX3_keepLowest_15 ?_
  refine z_get X zinX3 0 (by omega) gC_T (ci := 5) rfl 14 (by decide) (ref := "TowerFields") zw134 rfl rfl dX3_keepLowest_16 ?_
  refine z_get X zinX0 2 (by omega) gC_D (ci := 2) rfl 1 (by decide) (ref := "TowerFields$Divisor") zw66 rfl rfl dX3_keepLowest_19 ?_
  refine z_astore_n X [(1, .ref (ad (10 + 3))), (0, .ref (ad 0))] rfl rfl (by decide) dX3_keepLowest_22 ?_
  refine z_aload_n X 1 rfl rfl dX3_keepLowest_23 ?_
  refine z_get X zinX3 0 (by omega) gC_T (ci := 5) rfl 14 (by decide) (ref := "TowerFields") zw134 rfl rfl dX3_keepLowest_24 ?_
  refine z_get X zinX0 2 (by omega) gC_D (ci := 2) rfl 2 (by decide) (ref := "TowerFields$Divisor") zw68 rfl rfl dX3_keepLowest_27 ?_
  refine z_astore_n X [(2, .ref (ad (11 + 3))), (1, .ref (ad (10 + 3))), (0, .ref (ad 0))] rfl rfl (by decide) dX3_keepLowest_30 ?_
  refine z_aload_n X 0 rfl rfl dX3_keepLowest_31 ?_
  refine z_callVi X zm_X2_head zw441 zw442 zw562 (zFitN_of (by decide) (by decide) (by decide) (by decide)) [] (c_X2_head HU HA l R1 (q := 11) (by omega) hy) rfl rfl (Nat.le_of_ble_eq_true rfl) (by omega) (gC_P (by omega)) (q := vwCl[4]) rfl rfl dX3_keepLowest_32 (fun z _ hz => ?_)
  subst hz
  refine z_callSi X zm_X3_inverse zw279 zw278 (zFitN_of (by decide) (by decide) (by decide) (by decide)) [.int (iZ (vz (mp_lc cu (mp_lc ca y))))] (c_X3_inverse l (gC ad cI cO S1) (mp_lc cu (mp_lc ca y))) rfl rfl (Nat.le_of_ble_eq_true rfl) dX3_keepLowest_35 (fun z _ hz => ?_)
  rw [← hvd] at hz
  subst hz
  refine z_istore_n X [(3, .int (iZ (vz v))), (2, .ref (ad (11 + 3))), (1, .ref (ad (10 + 3))), (0, .ref (ad 0))] rfl rfl (by decide) dX3_keepLowest_38 ?_
  refine z_aload_n X 2 rfl rfl dX3_keepLowest_39 ?_
  refine z_iload_n X 0 rfl rfl dX3_keepLowest_40 ?_
  refine z_callVv X zm_X2_scale zw448 zw449 zw563 (zFitN_of (by decide) (by decide) (by decide) (by decide)) [.int (iZ (vz v))] (c_X2_scale HU l R1 (q := 10) (by omega) v) rfl rfl (Nat.le_of_ble_eq_true rfl) (by omega) (gC_P (by omega)) (q := vwCl[4]) rfl rfl dX3_keepLowest_41 (fun S2 R2 => ?_)
  obtain ⟨P2, hP2⟩ : ∃ P2, P2 = pwn P1 10 (fun i => mp_C cu v * P1 (13 * 10 + i)) 13 := ⟨_, rfl⟩
  rw [← hP2] at R2
  have f2 : ∀ j, (j < 130 ∨ 143 ≤ j) → P2 j = P1 j := fun j hj => by rw [hP2]; exact pwn_out P1 10 _ (by omega)
  have hx2 : zV ca P2 10 (mp_C ca (mp_C cu v) * x) := by rw [hP2]; exact zV_scale HA hx _
  have hy2 : zV ca P2 11 y := zV_eq hy (fun i hi => f2 _ (by omega))
  refine z_aload_n X 1 rfl rfl dX3_keepLowest_44 ?_
  refine z_iload_n X 0 rfl rfl dX3_keepLowest_45 ?_
  refine z_callVv X zm_X2_scale zw448 zw449 zw563 (zFitN_of (by decide) (by decide) (by decide) (by decide)) [.int (iZ (vz v))] (c_X2_scale HU l R2 (q := 11) (by omega) v) rfl rfl (Nat.le_of_ble_eq_true rfl) (by omega) (gC_P (by omega)) (q := vwCl[4]) rfl rfl dX3_keepLowest_46 (fun S3 R3 => ?_)
  obtain ⟨P3, hP3⟩ : ∃ P3, P3 = pwn P2 11 (fun i => mp_C cu v * P2 (13 * 11 + i)) 13 := ⟨_, rfl⟩
  rw [← hP3] at R3
  have f3 : ∀ j, (j < 143 ∨ 156 ≤ j) → P3 j = P2 j := fun j hj => by rw [hP3]; exact pwn_out P2 11 _ (by omega)
  have hy3 : zV ca P3 11 (mp_C ca (mp_C cu v) * y) := by rw [hP3]; exact zV_scale HA hy2 _
  have hx3 : zV ca P3 10 (mp_C ca (mp_C cu v) * x) := zV_eq hx2 (fun i hi => f3 _ (by omega))
  have hfr : ∀ j, (j < 117 ∨ j = 182 ∨ j = 183) → P3 j = P j := fun j hj => by rw [f3 j (by omega), f2 j (by omega), f1 j hj]
  have hlow : ∃ g, a = g * (mp_C ca (mp_C cu v) * x) ∧ b = g * (mp_C ca (mp_C cu v) * y) ∧ mp_Cp (mp_C ca (mp_C cu v) * x) (mp_C ca (mp_C cu v) * y) ∧ mp_lc cu (mp_lc ca (mp_C ca (mp_C cu v) * y)) = 1 := by
    refine ⟨f * mp_C ca (mp_C cu (mp_lc cu (mp_lc ca y))), ?_, ?_, ?_, l3⟩
    · rw [ex]; grind
    · rw [ey]; grind
    · intro d d1 d2
      have hU2 : ∀ z : V, mp_D d (mp_C ca (mp_C cu v) * z) → mp_D d z := fun z hz => by
        obtain ⟨t, ht2⟩ := hz
        exact ⟨mp_C ca (mp_C cu (mp_lc cu (mp_lc ca y))) * t, by grind⟩
      exact hcp d (hU2 x d1) (hU2 y d2)
  refine z_aload_n X 2 rfl rfl dX3_keepLowest_49 ?_
  refine z_callSi X zm_X3_isTooGreat zw565 zw564 (zFitN_of (by decide) (by decide) (by decide) (by decide)) [.ref (ad (10 + 3))] (c_X3_isTooGreat HU HA l R3 (q := 10) (by omega) hx3) rfl rfl (Nat.le_of_ble_eq_true rfl) dX3_keepLowest_50 (fun z _ hz1 => ?_)
  have hz101 : z = 0 ∨ z = 1 := by rcases hz1 with ⟨h, -⟩ | ⟨h, -⟩ <;> omega
  refine z_if_ne X (tgt := 63) (by omega) dX3_keepLowest_53 (by decide) (fun hb53 => ?_) (fun hb53 => ?_)
  · exact z_throw X XX ht hl9 (ik := 188) (is := 209) (ic := 192) (cls := "java/lang/IllegalStateException") 7 rfl (by decide +kernel) zw255 zw11 zat_192 dX3_keepLowest_63 dX3_keepLowest_66 dX3_keepLowest_67 dX3_keepLowest_69 dX3_keepLowest_72 (by decide) (by decide) (by decide) (by decide) (by decide) (by decide) S3 (⟨rfl, P3, _, _, R3, hfr, hlow, fun q => (hz1.resolve_left (fun q => by have := q.1; omega)).2 q.1⟩) (rfl)
  · refine z_aload_n X 1 rfl rfl dX3_keepLowest_56 ?_
    refine z_callSi X zm_X3_isTooGreat zw565 zw564 (zFitN_of (by decide) (by decide) (by decide) (by decide)) [.ref (ad (11 + 3))] (c_X3_isTooGreat HU HA l R3 (q := 11) (by omega) hy3) rfl rfl (Nat.le_of_ble_eq_true rfl) dX3_keepLowest_57 (fun z2 _ hz2 => ?_)
    have hz201 : z2 = 0 ∨ z2 = 1 := by rcases hz2 with ⟨h, -⟩ | ⟨h, -⟩ <;> omega
    refine z_if_eq X (tgt := 73) (by omega) dX3_keepLowest_60 (by decide) (fun hb60 => ?_) (fun hb60 => ?_)
    · refine z_aload_n X 3 rfl rfl dX3_keepLowest_73 ?_
      refine z_aload_n X 2 rfl rfl dX3_keepLowest_74 ?_
      refine z_aload_n X 1 rfl rfl dX3_keepLowest_75 ?_
      refine z_callVi X zm_X3_keep zw295 zp3 zw293 (zFitN_of (by decide) (by decide) (by decide) (by decide)) [.ref (ad (10 + 3)), .ref (ad (11 + 3))] (c_X3_keep HU HA l R3 (q1 := 10) (q2 := 11) (by omega) (by omega) hx3 hy3 (hz1.resolve_right (fun q => by have := q.1; omega)).2 (hz2.resolve_right (fun q => by have := q.1; omega)).2 hm0 hm1) rfl rfl (Nat.le_of_ble_eq_true rfl) (by omega) gC_T (q := vwCl[5]) rfl rfl dX3_keepLowest_76 (fun z3 S4 hu4 => ?_)
      obtain ⟨hz3, f9, R4, g1, g2, g3⟩ := hu4
      subst hz3
      exact E S4 (by decide) (by decide) ⟨rfl, P3, f9, _, _, R4, g1, ⟨by rw [show (98 * T.2.1 + 49 * 0).toNat = (98 * T.2.1).toNat by omega]; exact g2, by rw [show (98 * T.2.1 + 49 * 1).toNat = (98 * T.2.1).toNat + 49 by omega]; exact g3⟩, hfr, hlow⟩ rfl dX3_keepLowest_79
    · exact z_throw X XX ht hl9 (ik := 188) (is := 209) (ic := 192) (cls := "java/lang/IllegalStateException") 7 rfl (by decide +kernel) zw255 zw11 zat_192 dX3_keepLowest_63 dX3_keepLowest_66 dX3_keepLowest_67 dX3_keepLowest_69 dX3_keepLowest_72 (by decide) (by decide) (by decide) (by decide) (by decide) (by decide) S3 (⟨rfl, P3, _, _, R3, hfr, hlow, fun q => (hz2.resolve_left (fun q => by have := q.1; omega)).2 q.2⟩) (rfl)
