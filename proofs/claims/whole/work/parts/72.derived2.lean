section
variable {U V : Type}
/-- the derivation of a polynomial, as the reference has it -/
noncomputable def mR [Lean.Grind.CommRing U] [Lean.Grind.CommRing V] (cu : U → Nat → FP) (ca : V → Nat → U) (kd : Int) (W sD a : V) : V := @ite V (kd = 0) (Classical.propDecidable _) (md_x cu ca a) (md_x cu ca a * sD + md_d ca a * W)
noncomputable def mF [Lean.Grind.CommRing V] (kd : Int) (sD a : V) : V := @ite V (kd = 0) (Classical.propDecidable _) a (a * sD)
theorem mR_0 [Lean.Grind.CommRing U] [Lean.Grind.CommRing V] {cu : U → Nat → FP} {ca : V → Nat → U} {kd : Int} {W sD a : V} (h : kd = 0) : mR cu ca kd W sD a = md_x cu ca a := if_pos h
theorem mR_1 [Lean.Grind.CommRing U] [Lean.Grind.CommRing V] {cu : U → Nat → FP} {ca : V → Nat → U} {kd : Int} {W sD a : V} (h : kd ≠ 0) : mR cu ca kd W sD a = md_x cu ca a * sD + md_d ca a * W := if_neg h
theorem mR_b [Lean.Grind.CommRing U] [Lean.Grind.CommRing V] {cu : U → Nat → FP} {ca : V → Nat → U} (HU : mp_P cu) (HA : mp_P ca) {kd : Int} {W sD a : V} (hS : mSl cu ca kd W sD) (ha : zbb cu ca 7 7 a) : zbb cu ca 8 19 (mR cu ca kd W sD a) := by
  by_cases h : kd = 0
  · rw [mR_0 h]; exact zbb_le (zbb_x HU HA ha) (by omega) (by omega)
  · rw [mR_1 h]
    obtain ⟨h1, h2, _⟩ := hS h
    exact zbb_add HU HA (zbb_mul HU HA (zbb_x HU HA ha) h2 (by omega) (by omega)) (zbb_mul HU HA (zbb_d HU HA ha) h1 (by omega) (by omega))
theorem mF_b [Lean.Grind.CommRing U] [Lean.Grind.CommRing V] {cu : U → Nat → FP} {ca : V → Nat → U} (HU : mp_P cu) (HA : mp_P ca) {kd : Int} {W sD a : V} (hS : mSl cu ca kd W sD) (ha : zbb cu ca 13 13 a) : zbb cu ca 13 25 (mF kd sD a) := by
  by_cases h : kd = 0
  · rw [mF, if_pos h]; exact zbb_le ha (by omega) (by omega)
  · rw [mF, if_neg h]
    exact zbb_mul HU HA ha (hS h).2.1 (by omega) (by omega)
theorem mF_n [Lean.Grind.CommRing U] [Lean.Grind.CommRing V] {cu : U → Nat → FP} {ca : V → Nat → U} (HU : mp_P cu) (HA : mp_P ca) {kd : Int} {W sD a : V} (hS : mSl cu ca kd W sD) (ha : a ≠ 0) : mF kd sD a ≠ 0 := by
  by_cases h : kd = 0
  · rw [mF, if_pos h]; exact ha
  · rw [mF, if_neg h]
    exact mp_nz_mul (mp_dom HA (mp_dom HU (mp_Fd_nz mp_FP))) ha (hS h).2.2
end
set_option maxHeartbeats 8000000 in
set_option maxRecDepth 100000 in
theorem q_deriveRow5 {U V : Type} [Lean.Grind.CommRing U] [Lean.Grind.CommRing V] {cu : U → Nat → FP} {ca : V → Nat → U} (HU : mp_P cu) (HA : mp_P ca) (l : Launch) {D : va_G} {ad : Nat → Nat} {cI : ClassId} {F : Nat → V} {T : zTM} {M : zM} (hO : zO cu ca F T M) {EL : Int → V × V} {md kd : Int} {W sD : V} {cd : Int} (hG : mG cu ca EL md kd W sD cd F T) (hS : mSl cu ca kd W sD ∧ (0 ≤ kd ∧ kd ≤ 2)) (bA : zbb cu ca 7 7 (F 5)) : zMv l yX4_deriveRow cX4_deriveRow 3 2 D (zTyM cI) 18 ad [.ref (ad 0), .ref (ad (8)), .ref (ad (5))] (gM ad cI M) (gM ad cI) (fun u => ∃ F9, zO cu ca F9 T u ∧ F9 8 = mR cu ca kd W sD (F 5) ∧ F9 5 = F 5 ∧ F9 6 = F 6 ∧ F9 10 = F 10 ∧ F9 3 = F 3 ∧ F9 4 = F 4) := by
  have hkd : M.2.2.2.2.1 = kd := (zO_rk hO).trans hG.2.2.2.1
  have hkb := hS.2
  have v0_3 : F 3 = F 3 := rfl
  have v0_4 : F 4 = F 4 := rfl
  have v0_5 : F 5 = F 5 := rfl
  have v0_6 : F 6 = F 6 := rfl
  have v0_10 : F 10 = F 10 := rfl
  refine z_gov zm_X4_deriveRow (Nat.le_of_ble_eq_true rfl) [(0, .ref (ad 0)), (1, .ref (ad (8))), (2, .ref (ad (5)))] rfl (fun p e s m args below meth c A Q X E => ?_)
  refine z_aload_n X 0 rfl rfl dX4_deriveRow_0 ?_
  refine z_get X zinX4 0 (by omega) gM_O (ci := 6) rfl 9 (by decide) (ref := "TowerFieldsModel") zw680 rfl rfl dX4_deriveRow_1 ?_
  refine z_aload_n X 2 rfl rfl dX4_deriveRow_4 ?_
  refine z_iconst X (n := 1) dX4_deriveRow_5 ?_
  have bd1 : zbb cu ca 7 7 (md_x cu ca (F 5)) := zbb_x HU HA bA
  refine z_callSv X zm_X4_slope zw790 zw789 (zFit_of (by decide) (by decide)) [.ref (ad (7)), .ref (ad (5)), .int (iZ (1))] (q_slope1 HU HA l hO (x := 7) (y := 5) (by decide) (by decide) (by omega)) rfl rfl (Nat.le_of_ble_eq_true rfl) dX4_deriveRow_6 (fun S1 O1 => ?_)
  obtain ⟨F1, eF1⟩ : ∃ F9, F9 = va_up F 7 (md_x cu ca (F 5)) := ⟨_, rfl⟩
  rw [← eF1] at O1
  have v1_7 : F1 7 = md_x cu ca (F 5) := by rw [eF1, va_up_self, v0_5]
  have v1_3 : F1 3 = F 3 := (congrFun eF1 3).trans ((va_up_ne _ _ (by omega)).trans v0_3)
  have v1_4 : F1 4 = F 4 := (congrFun eF1 4).trans ((va_up_ne _ _ (by omega)).trans v0_4)
  have v1_5 : F1 5 = F 5 := (congrFun eF1 5).trans ((va_up_ne _ _ (by omega)).trans v0_5)
  have v1_6 : F1 6 = F 6 := (congrFun eF1 6).trans ((va_up_ne _ _ (by omega)).trans v0_6)
  have v1_10 : F1 10 = F 10 := (congrFun eF1 10).trans ((va_up_ne _ _ (by omega)).trans v0_10)
  clear eF1
  refine z_aload_n X 0 rfl rfl dX4_deriveRow_9 ?_
  have hkd1 : S1.2.2.2.2.1 = kd := (zO_rk O1).trans hG.2.2.2.1
  refine z_get X zinX4 0 (by omega) gM_O (ci := 6) rfl 4 (by decide) (ref := "TowerFieldsModel") zw675 rfl rfl dX4_deriveRow_10 ?_
  refine z_eqi (b := kd) hkd1 ?_
  refine z_if_ne X (tgt := 25) (by omega) dX4_deriveRow_13 (by decide) (fun hb13 => ?_) (fun hb13 => ?_)
  · obtain ⟨hW, hs9⟩ := hG.2.2.2.2 (by omega)
    obtain ⟨bW, bs, -⟩ := hS.1 (by omega)
    have w_3 : F1 3 = W := v1_3.trans hW
    have w_4 : F1 4 = sD := v1_4.trans hs9
    refine z_aload_n X 0 rfl rfl dX4_deriveRow_25 ?_
    refine z_aload_n X 1 rfl rfl dX4_deriveRow_26 ?_
    refine z_aload_n X 0 rfl rfl dX4_deriveRow_27 ?_
    refine z_get X zinX4 0 (by omega) gM_O (ci := 6) rfl 9 (by decide) (ref := "TowerFieldsModel") zw680 rfl rfl dX4_deriveRow_28 ?_
    refine z_aload_n X 0 rfl rfl dX4_deriveRow_31 ?_
    refine z_get X zinX4 0 (by omega) gM_O (ci := 6) rfl 6 (by decide) (ref := "TowerFieldsModel") zw677 rfl rfl dX4_deriveRow_32 ?_
    have bd2 : zbb cu ca 7 19 ((md_x cu ca (F 5)) * sD) := zbb_mul HU HA bd1 bs (by omega) (by omega)
    refine z_callVv X zm_X4_multiply zw794 zp34 zw792 (zFit_of (by decide) (by decide)) [.ref (ad (8)), .ref (ad (7)), .ref (ad (4))] (q_multiply HU HA l O1 (x := 8) (y := 7) (z := 4) (by decide) (by decide) (by decide) (by omega) (by omega) (by rw [v1_7]; exact bd1) (by rw [w_4]; exact bs) (by omega) (by omega)) rfl rfl (Nat.le_of_ble_eq_true rfl) (by omega) gM_O (q := vwCl[6]) rfl rfl dX4_deriveRow_35 (fun S2 O2 => ?_)
    obtain ⟨F2, eF2⟩ : ∃ F9, F9 = va_up F1 8 (F1 7 * F1 4) := ⟨_, rfl⟩
    rw [← eF2] at O2
    have v2_8 : F2 8 = (md_x cu ca (F 5)) * sD := by rw [eF2, va_up_self, v1_7, w_4]
    have v2_3 : F2 3 = W := (congrFun eF2 3).trans ((va_up_ne _ _ (by omega)).trans w_3)
    have v2_4 : F2 4 = sD := (congrFun eF2 4).trans ((va_up_ne _ _ (by omega)).trans w_4)
    have v2_5 : F2 5 = F 5 := (congrFun eF2 5).trans ((va_up_ne _ _ (by omega)).trans v1_5)
    have v2_6 : F2 6 = F 6 := (congrFun eF2 6).trans ((va_up_ne _ _ (by omega)).trans v1_6)
    have v2_10 : F2 10 = F 10 := (congrFun eF2 10).trans ((va_up_ne _ _ (by omega)).trans v1_10)
    have v2_7 : F2 7 = md_x cu ca (F 5) := (congrFun eF2 7).trans ((va_up_ne _ _ (by omega)).trans v1_7)
    clear eF2
    refine z_aload_n X 0 rfl rfl dX4_deriveRow_38 ?_
    refine z_get X zinX4 0 (by omega) gM_O (ci := 6) rfl 9 (by decide) (ref := "TowerFieldsModel") zw680 rfl rfl dX4_deriveRow_39 ?_
    refine z_aload_n X 2 rfl rfl dX4_deriveRow_42 ?_
    refine z_bipush X (n := 40) (by decide) dX4_deriveRow_43 ?_
    have bd3 : zbb cu ca 7 7 (md_d ca (F 5)) := zbb_d HU HA bA
    refine z_callSv X zm_X4_slope zw790 zw789 (zFit_of (by decide) (by decide)) [.ref (ad (7)), .ref (ad (5)), .int (iZ (40))] (q_slope40 HU HA l O2 (x := 7) (y := 5) (by decide) (by decide) (by omega)) rfl rfl (Nat.le_of_ble_eq_true rfl) dX4_deriveRow_45 (fun S3 O3 => ?_)
    obtain ⟨F3, eF3⟩ : ∃ F9, F9 = va_up F2 7 (md_d ca (F2 5)) := ⟨_, rfl⟩
    rw [← eF3] at O3
    have v3_7 : F3 7 = md_d ca (F 5) := by rw [eF3, va_up_self, v2_5]
    have v3_3 : F3 3 = W := (congrFun eF3 3).trans ((va_up_ne _ _ (by omega)).trans v2_3)
    have v3_4 : F3 4 = sD := (congrFun eF3 4).trans ((va_up_ne _ _ (by omega)).trans v2_4)
    have v3_5 : F3 5 = F 5 := (congrFun eF3 5).trans ((va_up_ne _ _ (by omega)).trans v2_5)
    have v3_6 : F3 6 = F 6 := (congrFun eF3 6).trans ((va_up_ne _ _ (by omega)).trans v2_6)
    have v3_10 : F3 10 = F 10 := (congrFun eF3 10).trans ((va_up_ne _ _ (by omega)).trans v2_10)
    have v3_8 : F3 8 = (md_x cu ca (F 5)) * sD := (congrFun eF3 8).trans ((va_up_ne _ _ (by omega)).trans v2_8)
    clear eF3
    refine z_aload_n X 0 rfl rfl dX4_deriveRow_48 ?_
    refine z_aload_n X 0 rfl rfl dX4_deriveRow_49 ?_
    refine z_get X zinX4 0 (by omega) gM_O (ci := 6) rfl 11 (by decide) (ref := "TowerFieldsModel") zw682 rfl rfl dX4_deriveRow_50 ?_
    refine z_aload_n X 0 rfl rfl dX4_deriveRow_53 ?_
    refine z_get X zinX4 0 (by omega) gM_O (ci := 6) rfl 9 (by decide) (ref := "TowerFieldsModel") zw680 rfl rfl dX4_deriveRow_54 ?_
    refine z_aload_n X 0 rfl rfl dX4_deriveRow_57 ?_
    refine z_get X zinX4 0 (by omega) gM_O (ci := 6) rfl 5 (by decide) (ref := "TowerFieldsModel") zw676 rfl rfl dX4_deriveRow_58 ?_
    have bd4 : zbb cu ca 8 19 ((md_d ca (F 5)) * W) := zbb_mul HU HA bd3 bW (by omega) (by omega)
    refine z_callVv X zm_X4_multiply zw794 zp34 zw792 (zFit_of (by decide) (by decide)) [.ref (ad (9)), .ref (ad (7)), .ref (ad (3))] (q_multiply HU HA l O3 (x := 9) (y := 7) (z := 3) (by decide) (by decide) (by decide) (by omega) (by omega) (by rw [v3_7]; exact bd3) (by rw [v3_3]; exact bW) (by omega) (by omega)) rfl rfl (Nat.le_of_ble_eq_true rfl) (by omega) gM_O (q := vwCl[6]) rfl rfl dX4_deriveRow_61 (fun S4 O4 => ?_)
    obtain ⟨F4, eF4⟩ : ∃ F9, F9 = va_up F3 9 (F3 7 * F3 3) := ⟨_, rfl⟩
    rw [← eF4] at O4
    have v4_9 : F4 9 = (md_d ca (F 5)) * W := by rw [eF4, va_up_self, v3_7, v3_3]
    have v4_3 : F4 3 = W := (congrFun eF4 3).trans ((va_up_ne _ _ (by omega)).trans v3_3)
    have v4_4 : F4 4 = sD := (congrFun eF4 4).trans ((va_up_ne _ _ (by omega)).trans v3_4)
    have v4_5 : F4 5 = F 5 := (congrFun eF4 5).trans ((va_up_ne _ _ (by omega)).trans v3_5)
    have v4_6 : F4 6 = F 6 := (congrFun eF4 6).trans ((va_up_ne _ _ (by omega)).trans v3_6)
    have v4_10 : F4 10 = F 10 := (congrFun eF4 10).trans ((va_up_ne _ _ (by omega)).trans v3_10)
    have v4_7 : F4 7 = md_d ca (F 5) := (congrFun eF4 7).trans ((va_up_ne _ _ (by omega)).trans v3_7)
    have v4_8 : F4 8 = (md_x cu ca (F 5)) * sD := (congrFun eF4 8).trans ((va_up_ne _ _ (by omega)).trans v3_8)
    clear eF4
    refine z_aload_n X 1 rfl rfl dX4_deriveRow_64 ?_
    refine z_aload_n X 0 rfl rfl dX4_deriveRow_65 ?_
    refine z_get X zinX4 0 (by omega) gM_O (ci := 6) rfl 11 (by decide) (ref := "TowerFieldsModel") zw682 rfl rfl dX4_deriveRow_66 ?_
    refine z_iconst X (n := 1) dX4_deriveRow_69 ?_
    have bd5 : zbb cu ca 8 19 (((md_x cu ca (F 5)) * sD) + ((md_d ca (F 5)) * W)) := zbb_add HU HA (zbb_le bd2 (by omega) (by omega)) (zbb_le bd4 (by omega) (by omega))
    refine z_callSv X zm_X4_plus zw800 zw799 (zFit_of (by decide) (by decide)) [.ref (ad (8)), .ref (ad (9)), .int (iZ (1))] (q_plus1 HU HA l O4 (x := 8) (y := 9) (by decide) (by decide) (by omega)) rfl rfl (Nat.le_of_ble_eq_true rfl) dX4_deriveRow_70 (fun S5 O5 => ?_)
    obtain ⟨F5, eF5⟩ : ∃ F9, F9 = va_up F4 8 (F4 8 + F4 9) := ⟨_, rfl⟩
    rw [← eF5] at O5
    have v5_8 : F5 8 = ((md_x cu ca (F 5)) * sD) + ((md_d ca (F 5)) * W) := by rw [eF5, va_up_self, v4_8, v4_9]
    have v5_3 : F5 3 = W := (congrFun eF5 3).trans ((va_up_ne _ _ (by omega)).trans v4_3)
    have v5_4 : F5 4 = sD := (congrFun eF5 4).trans ((va_up_ne _ _ (by omega)).trans v4_4)
    have v5_5 : F5 5 = F 5 := (congrFun eF5 5).trans ((va_up_ne _ _ (by omega)).trans v4_5)
    have v5_6 : F5 6 = F 6 := (congrFun eF5 6).trans ((va_up_ne _ _ (by omega)).trans v4_6)
    have v5_10 : F5 10 = F 10 := (congrFun eF5 10).trans ((va_up_ne _ _ (by omega)).trans v4_10)
    have v5_7 : F5 7 = md_d ca (F 5) := (congrFun eF5 7).trans ((va_up_ne _ _ (by omega)).trans v4_7)
    have v5_9 : F5 9 = (md_d ca (F 5)) * W := (congrFun eF5 9).trans ((va_up_ne _ _ (by omega)).trans v4_9)
    clear eF5
    exact E S5 ⟨F5, O5, by rw [v5_8, mR_1 (by omega)], v5_5, v5_6, v5_10, v5_3.trans hW.symm, v5_4.trans hs9.symm⟩ rfl dX4_deriveRow_73
  · refine z_aload_n X 1 rfl rfl dX4_deriveRow_16 ?_
    refine z_aload_n X 0 rfl rfl dX4_deriveRow_17 ?_
    refine z_get X zinX4 0 (by omega) gM_O (ci := 6) rfl 9 (by decide) (ref := "TowerFieldsModel") zw680 rfl rfl dX4_deriveRow_18 ?_
    refine z_callSv X zm_X4_copy zw806 zw805 (zFit_of (by decide) (by decide)) [.ref (ad (8)), .ref (ad (7))] (q_copy HU HA l O1 (x := 8) (y := 7) (by decide) (by decide) (by omega)) rfl rfl (Nat.le_of_ble_eq_true rfl) dX4_deriveRow_21 (fun S6 O6 => ?_)
    obtain ⟨F6, eF6⟩ : ∃ F9, F9 = va_up F1 8 (F1 7) := ⟨_, rfl⟩
    rw [← eF6] at O6
    have v6_8 : F6 8 = md_x cu ca (F 5) := by rw [eF6, va_up_self, v1_7]
    have v6_3 : F6 3 = F 3 := (congrFun eF6 3).trans ((va_up_ne _ _ (by omega)).trans v1_3)
    have v6_4 : F6 4 = F 4 := (congrFun eF6 4).trans ((va_up_ne _ _ (by omega)).trans v1_4)
    have v6_5 : F6 5 = F 5 := (congrFun eF6 5).trans ((va_up_ne _ _ (by omega)).trans v1_5)
    have v6_6 : F6 6 = F 6 := (congrFun eF6 6).trans ((va_up_ne _ _ (by omega)).trans v1_6)
    have v6_10 : F6 10 = F 10 := (congrFun eF6 10).trans ((va_up_ne _ _ (by omega)).trans v1_10)
    have v6_7 : F6 7 = md_x cu ca (F 5) := (congrFun eF6 7).trans ((va_up_ne _ _ (by omega)).trans v1_7)
    clear eF6
    exact E S6 ⟨F6, O6, by rw [v6_8, mR_0 (by omega)], v6_5, v6_6, v6_10, v6_3, v6_4⟩ rfl dX4_deriveRow_24
set_option maxHeartbeats 8000000 in
set_option maxRecDepth 100000 in
theorem q_deriveRow6 {U V : Type} [Lean.Grind.CommRing U] [Lean.Grind.CommRing V] {cu : U → Nat → FP} {ca : V → Nat → U} (HU : mp_P cu) (HA : mp_P ca) (l : Launch) {D : va_G} {ad : Nat → Nat} {cI : ClassId} {F : Nat → V} {T : zTM} {M : zM} (hO : zO cu ca F T M) {EL : Int → V × V} {md kd : Int} {W sD : V} {cd : Int} (hG : mG cu ca EL md kd W sD cd F T) (hS : mSl cu ca kd W sD ∧ (0 ≤ kd ∧ kd ≤ 2)) (bA : zbb cu ca 7 7 (F 6)) : zMv l yX4_deriveRow cX4_deriveRow 3 2 D (zTyM cI) 18 ad [.ref (ad 0), .ref (ad (8)), .ref (ad (6))] (gM ad cI M) (gM ad cI) (fun u => ∃ F9, zO cu ca F9 T u ∧ F9 8 = mR cu ca kd W sD (F 6) ∧ F9 5 = F 5 ∧ F9 6 = F 6 ∧ F9 10 = F 10 ∧ F9 3 = F 3 ∧ F9 4 = F 4) := by
  have hkd : M.2.2.2.2.1 = kd := (zO_rk hO).trans hG.2.2.2.1
  have hkb := hS.2
  have v0_3 : F 3 = F 3 := rfl
  have v0_4 : F 4 = F 4 := rfl
  have v0_5 : F 5 = F 5 := rfl
  have v0_6 : F 6 = F 6 := rfl
  have v0_10 : F 10 = F 10 := rfl
  refine z_gov zm_X4_deriveRow (Nat.le_of_ble_eq_true rfl) [(0, .ref (ad 0)), (1, .ref (ad (8))), (2, .ref (ad (6)))] rfl (fun p e s m args below meth c A Q X E => ?_)
  refine z_aload_n X 0 rfl rfl dX4_deriveRow_0 ?_
  refine z_get X zinX4 0 (by omega) gM_O (ci := 6) rfl 9 (by decide) (ref := "TowerFieldsModel") zw680 rfl rfl dX4_deriveRow_1 ?_
  refine z_aload_n X 2 rfl rfl dX4_deriveRow_4 ?_
  refine z_iconst X (n := 1) dX4_deriveRow_5 ?_
  have bd1 : zbb cu ca 7 7 (md_x cu ca (F 6)) := zbb_x HU HA bA
  refine z_callSv X zm_X4_slope zw790 zw789 (zFit_of (by decide) (by decide)) [.ref (ad (7)), .ref (ad (6)), .int (iZ (1))] (q_slope1 HU HA l hO (x := 7) (y := 6) (by decide) (by decide) (by omega)) rfl rfl (Nat.le_of_ble_eq_true rfl) dX4_deriveRow_6 (fun S1 O1 => ?_)
  obtain ⟨F1, eF1⟩ : ∃ F9, F9 = va_up F 7 (md_x cu ca (F 6)) := ⟨_, rfl⟩
  rw [← eF1] at O1
  have v1_7 : F1 7 = md_x cu ca (F 6) := by rw [eF1, va_up_self, v0_6]
  have v1_3 : F1 3 = F 3 := (congrFun eF1 3).trans ((va_up_ne _ _ (by omega)).trans v0_3)
  have v1_4 : F1 4 = F 4 := (congrFun eF1 4).trans ((va_up_ne _ _ (by omega)).trans v0_4)
  have v1_5 : F1 5 = F 5 := (congrFun eF1 5).trans ((va_up_ne _ _ (by omega)).trans v0_5)
  have v1_6 : F1 6 = F 6 := (congrFun eF1 6).trans ((va_up_ne _ _ (by omega)).trans v0_6)
  have v1_10 : F1 10 = F 10 := (congrFun eF1 10).trans ((va_up_ne _ _ (by omega)).trans v0_10)
  clear eF1
  refine z_aload_n X 0 rfl rfl dX4_deriveRow_9 ?_
  have hkd1 : S1.2.2.2.2.1 = kd := (zO_rk O1).trans hG.2.2.2.1
  refine z_get X zinX4 0 (by omega) gM_O (ci := 6) rfl 4 (by decide) (ref := "TowerFieldsModel") zw675 rfl rfl dX4_deriveRow_10 ?_
  refine z_eqi (b := kd) hkd1 ?_
  refine z_if_ne X (tgt := 25) (by omega) dX4_deriveRow_13 (by decide) (fun hb13 => ?_) (fun hb13 => ?_)
  · obtain ⟨hW, hs9⟩ := hG.2.2.2.2 (by omega)
    obtain ⟨bW, bs, -⟩ := hS.1 (by omega)
    have w_3 : F1 3 = W := v1_3.trans hW
    have w_4 : F1 4 = sD := v1_4.trans hs9
    refine z_aload_n X 0 rfl rfl dX4_deriveRow_25 ?_
    refine z_aload_n X 1 rfl rfl dX4_deriveRow_26 ?_
    refine z_aload_n X 0 rfl rfl dX4_deriveRow_27 ?_
    refine z_get X zinX4 0 (by omega) gM_O (ci := 6) rfl 9 (by decide) (ref := "TowerFieldsModel") zw680 rfl rfl dX4_deriveRow_28 ?_
    refine z_aload_n X 0 rfl rfl dX4_deriveRow_31 ?_
    refine z_get X zinX4 0 (by omega) gM_O (ci := 6) rfl 6 (by decide) (ref := "TowerFieldsModel") zw677 rfl rfl dX4_deriveRow_32 ?_
    have bd2 : zbb cu ca 7 19 ((md_x cu ca (F 6)) * sD) := zbb_mul HU HA bd1 bs (by omega) (by omega)
    refine z_callVv X zm_X4_multiply zw794 zp34 zw792 (zFit_of (by decide) (by decide)) [.ref (ad (8)), .ref (ad (7)), .ref (ad (4))] (q_multiply HU HA l O1 (x := 8) (y := 7) (z := 4) (by decide) (by decide) (by decide) (by omega) (by omega) (by rw [v1_7]; exact bd1) (by rw [w_4]; exact bs) (by omega) (by omega)) rfl rfl (Nat.le_of_ble_eq_true rfl) (by omega) gM_O (q := vwCl[6]) rfl rfl dX4_deriveRow_35 (fun S2 O2 => ?_)
    obtain ⟨F2, eF2⟩ : ∃ F9, F9 = va_up F1 8 (F1 7 * F1 4) := ⟨_, rfl⟩
    rw [← eF2] at O2
    have v2_8 : F2 8 = (md_x cu ca (F 6)) * sD := by rw [eF2, va_up_self, v1_7, w_4]
    have v2_3 : F2 3 = W := (congrFun eF2 3).trans ((va_up_ne _ _ (by omega)).trans w_3)
    have v2_4 : F2 4 = sD := (congrFun eF2 4).trans ((va_up_ne _ _ (by omega)).trans w_4)
    have v2_5 : F2 5 = F 5 := (congrFun eF2 5).trans ((va_up_ne _ _ (by omega)).trans v1_5)
    have v2_6 : F2 6 = F 6 := (congrFun eF2 6).trans ((va_up_ne _ _ (by omega)).trans v1_6)
    have v2_10 : F2 10 = F 10 := (congrFun eF2 10).trans ((va_up_ne _ _ (by omega)).trans v1_10)
    have v2_7 : F2 7 = md_x cu ca (F 6) := (congrFun eF2 7).trans ((va_up_ne _ _ (by omega)).trans v1_7)
    clear eF2
    refine z_aload_n X 0 rfl rfl dX4_deriveRow_38 ?_
    refine z_get X zinX4 0 (by omega) gM_O (ci := 6) rfl 9 (by decide) (ref := "TowerFieldsModel") zw680 rfl rfl dX4_deriveRow_39 ?_
    refine z_aload_n X 2 rfl rfl dX4_deriveRow_42 ?_
    refine z_bipush X (n := 40) (by decide) dX4_deriveRow_43 ?_
    have bd3 : zbb cu ca 7 7 (md_d ca (F 6)) := zbb_d HU HA bA
    refine z_callSv X zm_X4_slope zw790 zw789 (zFit_of (by decide) (by decide)) [.ref (ad (7)), .ref (ad (6)), .int (iZ (40))] (q_slope40 HU HA l O2 (x := 7) (y := 6) (by decide) (by decide) (by omega)) rfl rfl (Nat.le_of_ble_eq_true rfl) dX4_deriveRow_45 (fun S3 O3 => ?_)
    obtain ⟨F3, eF3⟩ : ∃ F9, F9 = va_up F2 7 (md_d ca (F2 6)) := ⟨_, rfl⟩
    rw [← eF3] at O3
    have v3_7 : F3 7 = md_d ca (F 6) := by rw [eF3, va_up_self, v2_6]
    have v3_3 : F3 3 = W := (congrFun eF3 3).trans ((va_up_ne _ _ (by omega)).trans v2_3)
    have v3_4 : F3 4 = sD := (congrFun eF3 4).trans ((va_up_ne _ _ (by omega)).trans v2_4)
    have v3_5 : F3 5 = F 5 := (congrFun eF3 5).trans ((va_up_ne _ _ (by omega)).trans v2_5)
    have v3_6 : F3 6 = F 6 := (congrFun eF3 6).trans ((va_up_ne _ _ (by omega)).trans v2_6)
    have v3_10 : F3 10 = F 10 := (congrFun eF3 10).trans ((va_up_ne _ _ (by omega)).trans v2_10)
    have v3_8 : F3 8 = (md_x cu ca (F 6)) * sD := (congrFun eF3 8).trans ((va_up_ne _ _ (by omega)).trans v2_8)
    clear eF3
    refine z_aload_n X 0 rfl rfl dX4_deriveRow_48 ?_
    refine z_aload_n X 0 rfl rfl dX4_deriveRow_49 ?_
    refine z_get X zinX4 0 (by omega) gM_O (ci := 6) rfl 11 (by decide) (ref := "TowerFieldsModel") zw682 rfl rfl dX4_deriveRow_50 ?_
    refine z_aload_n X 0 rfl rfl dX4_deriveRow_53 ?_
    refine z_get X zinX4 0 (by omega) gM_O (ci := 6) rfl 9 (by decide) (ref := "TowerFieldsModel") zw680 rfl rfl dX4_deriveRow_54 ?_
    refine z_aload_n X 0 rfl rfl dX4_deriveRow_57 ?_
    refine z_get X zinX4 0 (by omega) gM_O (ci := 6) rfl 5 (by decide) (ref := "TowerFieldsModel") zw676 rfl rfl dX4_deriveRow_58 ?_
    have bd4 : zbb cu ca 8 19 ((md_d ca (F 6)) * W) := zbb_mul HU HA bd3 bW (by omega) (by omega)
    refine z_callVv X zm_X4_multiply zw794 zp34 zw792 (zFit_of (by decide) (by decide)) [.ref (ad (9)), .ref (ad (7)), .ref (ad (3))] (q_multiply HU HA l O3 (x := 9) (y := 7) (z := 3) (by decide) (by decide) (by decide) (by omega) (by omega) (by rw [v3_7]; exact bd3) (by rw [v3_3]; exact bW) (by omega) (by omega)) rfl rfl (Nat.le_of_ble_eq_true rfl) (by omega) gM_O (q := vwCl[6]) rfl rfl dX4_deriveRow_61 (fun S4 O4 => ?_)
    obtain ⟨F4, eF4⟩ : ∃ F9, F9 = va_up F3 9 (F3 7 * F3 3) := ⟨_, rfl⟩
    rw [← eF4] at O4
    have v4_9 : F4 9 = (md_d ca (F 6)) * W := by rw [eF4, va_up_self, v3_7, v3_3]
    have v4_3 : F4 3 = W := (congrFun eF4 3).trans ((va_up_ne _ _ (by omega)).trans v3_3)
    have v4_4 : F4 4 = sD := (congrFun eF4 4).trans ((va_up_ne _ _ (by omega)).trans v3_4)
    have v4_5 : F4 5 = F 5 := (congrFun eF4 5).trans ((va_up_ne _ _ (by omega)).trans v3_5)
    have v4_6 : F4 6 = F 6 := (congrFun eF4 6).trans ((va_up_ne _ _ (by omega)).trans v3_6)
    have v4_10 : F4 10 = F 10 := (congrFun eF4 10).trans ((va_up_ne _ _ (by omega)).trans v3_10)
    have v4_7 : F4 7 = md_d ca (F 6) := (congrFun eF4 7).trans ((va_up_ne _ _ (by omega)).trans v3_7)
    have v4_8 : F4 8 = (md_x cu ca (F 6)) * sD := (congrFun eF4 8).trans ((va_up_ne _ _ (by omega)).trans v3_8)
    clear eF4
    refine z_aload_n X 1 rfl rfl dX4_deriveRow_64 ?_
    refine z_aload_n X 0 rfl rfl dX4_deriveRow_65 ?_
    refine z_get X zinX4 0 (by omega) gM_O (ci := 6) rfl 11 (by decide) (ref := "TowerFieldsModel") zw682 rfl rfl dX4_deriveRow_66 ?_
    refine z_iconst X (n := 1) dX4_deriveRow_69 ?_
    have bd5 : zbb cu ca 8 19 (((md_x cu ca (F 6)) * sD) + ((md_d ca (F 6)) * W)) := zbb_add HU HA (zbb_le bd2 (by omega) (by omega)) (zbb_le bd4 (by omega) (by omega))
    refine z_callSv X zm_X4_plus zw800 zw799 (zFit_of (by decide) (by decide)) [.ref (ad (8)), .ref (ad (9)), .int (iZ (1))] (q_plus1 HU HA l O4 (x := 8) (y := 9) (by decide) (by decide) (by omega)) rfl rfl (Nat.le_of_ble_eq_true rfl) dX4_deriveRow_70 (fun S5 O5 => ?_)
    obtain ⟨F5, eF5⟩ : ∃ F9, F9 = va_up F4 8 (F4 8 + F4 9) := ⟨_, rfl⟩
    rw [← eF5] at O5
    have v5_8 : F5 8 = ((md_x cu ca (F 6)) * sD) + ((md_d ca (F 6)) * W) := by rw [eF5, va_up_self, v4_8, v4_9]
    have v5_3 : F5 3 = W := (congrFun eF5 3).trans ((va_up_ne _ _ (by omega)).trans v4_3)
    have v5_4 : F5 4 = sD := (congrFun eF5 4).trans ((va_up_ne _ _ (by omega)).trans v4_4)
    have v5_5 : F5 5 = F 5 := (congrFun eF5 5).trans ((va_up_ne _ _ (by omega)).trans v4_5)
    have v5_6 : F5 6 = F 6 := (congrFun eF5 6).trans ((va_up_ne _ _ (by omega)).trans v4_6)
    have v5_10 : F5 10 = F 10 := (congrFun eF5 10).trans ((va_up_ne _ _ (by omega)).trans v4_10)
    have v5_7 : F5 7 = md_d ca (F 6) := (congrFun eF5 7).trans ((va_up_ne _ _ (by omega)).trans v4_7)
    have v5_9 : F5 9 = (md_d ca (F 6)) * W := (congrFun eF5 9).trans ((va_up_ne _ _ (by omega)).trans v4_9)
    clear eF5
    exact E S5 ⟨F5, O5, by rw [v5_8, mR_1 (by omega)], v5_5, v5_6, v5_10, v5_3.trans hW.symm, v5_4.trans hs9.symm⟩ rfl dX4_deriveRow_73
  · refine z_aload_n X 1 rfl rfl dX4_deriveRow_16 ?_
    refine z_aload_n X 0 rfl rfl dX4_deriveRow_17 ?_
    refine z_get X zinX4 0 (by omega) gM_O (ci := 6) rfl 9 (by decide) (ref := "TowerFieldsModel") zw680 rfl rfl dX4_deriveRow_18 ?_
    refine z_callSv X zm_X4_copy zw806 zw805 (zFit_of (by decide) (by decide)) [.ref (ad (8)), .ref (ad (7))] (q_copy HU HA l O1 (x := 8) (y := 7) (by decide) (by decide) (by omega)) rfl rfl (Nat.le_of_ble_eq_true rfl) dX4_deriveRow_21 (fun S6 O6 => ?_)
    obtain ⟨F6, eF6⟩ : ∃ F9, F9 = va_up F1 8 (F1 7) := ⟨_, rfl⟩
    rw [← eF6] at O6
    have v6_8 : F6 8 = md_x cu ca (F 6) := by rw [eF6, va_up_self, v1_7]
    have v6_3 : F6 3 = F 3 := (congrFun eF6 3).trans ((va_up_ne _ _ (by omega)).trans v1_3)
    have v6_4 : F6 4 = F 4 := (congrFun eF6 4).trans ((va_up_ne _ _ (by omega)).trans v1_4)
    have v6_5 : F6 5 = F 5 := (congrFun eF6 5).trans ((va_up_ne _ _ (by omega)).trans v1_5)
    have v6_6 : F6 6 = F 6 := (congrFun eF6 6).trans ((va_up_ne _ _ (by omega)).trans v1_6)
    have v6_10 : F6 10 = F 10 := (congrFun eF6 10).trans ((va_up_ne _ _ (by omega)).trans v1_10)
    have v6_7 : F6 7 = md_x cu ca (F 6) := (congrFun eF6 7).trans ((va_up_ne _ _ (by omega)).trans v1_7)
    clear eF6
    exact E S6 ⟨F6, O6, by rw [v6_8, mR_0 (by omega)], v6_5, v6_6, v6_10, v6_3, v6_4⟩ rfl dX4_deriveRow_24
set_option maxHeartbeats 8000000 in
set_option maxRecDepth 100000 in
theorem q_deriveUp {U V : Type} [Lean.Grind.CommRing U] [Lean.Grind.CommRing V] {cu : U → Nat → FP} {ca : V → Nat → U} (HU : mp_P cu) (HA : mp_P ca) (l : Launch) {D : va_G} {ad : Nat → Nat} {cI : ClassId} {F : Nat → V} {T : zTM} {M : zM} (hO : zO cu ca F T M) {EL : Int → V × V} {md kd : Int} {W sD : V} {cd : Int} (hG : mG cu ca EL md kd W sD cd F T) (hS : mSl cu ca kd W sD ∧ (0 ≤ kd ∧ kd ≤ 2)) {n : Int} (hn : 0 ≤ n ∧ n < md) : zMv l yX4_deriveUp cX4_deriveUp 2 3 D (zTyM cI) 18 ad [.ref (ad 0), .int (iZ (n))] (gM ad cI M) (gM ad cI) (fun u => ∃ F9, zO cu ca F9 T u ∧ F9 10 = mR cu ca kd W sD (EL n).1 * (EL n).2 - mR cu ca kd W sD (EL n).2 * (EL n).1 ∧ F9 5 = (EL n).1 ∧ F9 6 = (EL n).2 ∧ F9 3 = F 3 ∧ F9 4 = F 4) := by
  obtain ⟨x1a, x1b⟩ : mEl cu ca T.1 n (EL n).1 ∧ mEl cu ca T.2.1 n (EL n).2 := hG.1.2.2 n hn.1 (by rw [hG.2.2.1]; exact hn.2)
  have hm9 := hG.1.2.1
  rw [hG.2.2.1] at hm9
  have v0_3 : F 3 = F 3 := rfl
  have v0_4 : F 4 = F 4 := rfl
  refine z_gov zm_X4_deriveUp (Nat.le_of_ble_eq_true rfl) [(0, .ref (ad 0)), (1, .int (iZ (n)))] rfl (fun p e s m args below meth c A Q X E => ?_)
  refine z_aload_n X 0 rfl rfl dX4_deriveUp_0 ?_
  refine z_aload_n X 0 rfl rfl dX4_deriveUp_1 ?_
  refine z_get X zinX4 0 (by omega) gM_O (ci := 6) rfl 7 (by decide) (ref := "TowerFieldsModel") zw678 rfl rfl dX4_deriveUp_2 ?_
  refine z_aload_n X 0 rfl rfl dX4_deriveUp_5 ?_
  refine z_get X zinX4 0 (by omega) gM_O (ci := 6) rfl 2 (by decide) (ref := "TowerFieldsModel") zw673 rfl rfl dX4_deriveUp_6 ?_
  refine z_iload_n X 1 rfl rfl dX4_deriveUp_9 ?_
  refine z_callVv X zm_X4_load zw787 zp33 zw785 (zFit_of (by decide) (by decide)) [.ref (ad (5)), .ref (ad (1)), .int (iZ (n))] (q_load HU HA l hO (x := 5) (r := 1) (by decide) (by omega) hn.1 (by omega) (a := (EL n).1) (by rw [zO_r1 hO]; exact x1a)) rfl rfl (Nat.le_of_ble_eq_true rfl) (by omega) gM_O (q := vwCl[6]) rfl rfl dX4_deriveUp_10 (fun S1 O1 => ?_)
  obtain ⟨F1, eF1⟩ : ∃ F9, F9 = va_up F 5 ((EL n).1) := ⟨_, rfl⟩
  rw [← eF1] at O1
  have v1_5 : F1 5 = (EL n).1 := by rw [eF1, va_up_self]
  have v1_3 : F1 3 = F 3 := (congrFun eF1 3).trans ((va_up_ne _ _ (by omega)).trans v0_3)
  have v1_4 : F1 4 = F 4 := (congrFun eF1 4).trans ((va_up_ne _ _ (by omega)).trans v0_4)
  clear eF1
  refine z_aload_n X 0 rfl rfl dX4_deriveUp_13 ?_
  refine z_aload_n X 0 rfl rfl dX4_deriveUp_14 ?_
  refine z_get X zinX4 0 (by omega) gM_O (ci := 6) rfl 8 (by decide) (ref := "TowerFieldsModel") zw679 rfl rfl dX4_deriveUp_15 ?_
  refine z_aload_n X 0 rfl rfl dX4_deriveUp_18 ?_
  refine z_get X zinX4 0 (by omega) gM_O (ci := 6) rfl 3 (by decide) (ref := "TowerFieldsModel") zw674 rfl rfl dX4_deriveUp_19 ?_
  refine z_iload_n X 1 rfl rfl dX4_deriveUp_22 ?_
  refine z_callVv X zm_X4_load zw787 zp33 zw785 (zFit_of (by decide) (by decide)) [.ref (ad (6)), .ref (ad (2)), .int (iZ (n))] (q_load HU HA l O1 (x := 6) (r := 2) (by decide) (by omega) hn.1 (by omega) (a := (EL n).2) (by rw [zO_r2 O1]; exact x1b)) rfl rfl (Nat.le_of_ble_eq_true rfl) (by omega) gM_O (q := vwCl[6]) rfl rfl dX4_deriveUp_23 (fun S2 O2 => ?_)
  obtain ⟨F2, eF2⟩ : ∃ F9, F9 = va_up F1 6 ((EL n).2) := ⟨_, rfl⟩
  rw [← eF2] at O2
  have v2_6 : F2 6 = (EL n).2 := by rw [eF2, va_up_self]
  have v2_3 : F2 3 = F 3 := (congrFun eF2 3).trans ((va_up_ne _ _ (by omega)).trans v1_3)
  have v2_4 : F2 4 = F 4 := (congrFun eF2 4).trans ((va_up_ne _ _ (by omega)).trans v1_4)
  have v2_5 : F2 5 = (EL n).1 := (congrFun eF2 5).trans ((va_up_ne _ _ (by omega)).trans v1_5)
  clear eF2
  refine z_aload_n X 0 rfl rfl dX4_deriveUp_26 ?_
  refine z_aload_n X 0 rfl rfl dX4_deriveUp_27 ?_
  refine z_get X zinX4 0 (by omega) gM_O (ci := 6) rfl 10 (by decide) (ref := "TowerFieldsModel") zw681 rfl rfl dX4_deriveUp_28 ?_
  refine z_aload_n X 0 rfl rfl dX4_deriveUp_31 ?_
  refine z_get X zinX4 0 (by omega) gM_O (ci := 6) rfl 7 (by decide) (ref := "TowerFieldsModel") zw678 rfl rfl dX4_deriveUp_32 ?_
  refine z_callVv X zm_X4_deriveRow zw862 zp42 zw860 (zFit_of (by decide) (by decide)) [.ref (ad (8)), .ref (ad (5))] (q_deriveRow5 HU HA l O2 (mG_F hG (F9 := F2) (v2_3.trans (rfl : F 3 = F 3).symm) (v2_4.trans (rfl : F 4 = F 4).symm)) hS (by rw [v2_5]; exact x1a.2)) rfl rfl (Nat.le_of_ble_eq_true rfl) (by omega) gM_O (q := vwCl[6]) rfl rfl dX4_deriveUp_35 (fun S3 O3 => ?_)
  obtain ⟨F3, O3, k8, k5, k6, k10, k3, k4⟩ := O3
  have v3_8 : F3 8 = mR cu ca kd W sD ((EL n).1) := by rw [k8, v2_5]
  have v3_5 : F3 5 = (EL n).1 := k5.trans v2_5
  have v3_6 : F3 6 = (EL n).2 := k6.trans v2_6
  have v3_3 : F3 3 = F 3 := k3.trans v2_3
  have v3_4 : F3 4 = F 4 := k4.trans v2_4
  clear k8 k5 k6 k10 k3 k4
  have bd3 : zbb cu ca 8 19 (mR cu ca kd W sD ((EL n).1)) := mR_b HU HA hS.1 x1a.2
  refine z_aload_n X 0 rfl rfl dX4_deriveUp_38 ?_
  refine z_aload_n X 0 rfl rfl dX4_deriveUp_39 ?_
  refine z_get X zinX4 0 (by omega) gM_O (ci := 6) rfl 12 (by decide) (ref := "TowerFieldsModel") zw683 rfl rfl dX4_deriveUp_40 ?_
  refine z_aload_n X 0 rfl rfl dX4_deriveUp_43 ?_
  refine z_get X zinX4 0 (by omega) gM_O (ci := 6) rfl 10 (by decide) (ref := "TowerFieldsModel") zw681 rfl rfl dX4_deriveUp_44 ?_
  refine z_aload_n X 0 rfl rfl dX4_deriveUp_47 ?_
  refine z_get X zinX4 0 (by omega) gM_O (ci := 6) rfl 8 (by decide) (ref := "TowerFieldsModel") zw679 rfl rfl dX4_deriveUp_48 ?_
  have bd4 : zbb cu ca 14 25 ((mR cu ca kd W sD ((EL n).1)) * ((EL n).2)) := zbb_mul HU HA bd3 x1b.2 (by omega) (by omega)
  refine z_callVv X zm_X4_multiply zw794 zp34 zw792 (zFit_of (by decide) (by decide)) [.ref (ad (10)), .ref (ad (8)), .ref (ad (6))] (q_multiply HU HA l O3 (x := 10) (y := 8) (z := 6) (by decide) (by decide) (by decide) (by omega) (by omega) (by rw [v3_8]; exact bd3) (by rw [v3_6]; exact x1b.2) (by omega) (by omega)) rfl rfl (Nat.le_of_ble_eq_true rfl) (by omega) gM_O (q := vwCl[6]) rfl rfl dX4_deriveUp_51 (fun S4 O4 => ?_)
  obtain ⟨F4, eF4⟩ : ∃ F9, F9 = va_up F3 10 (F3 8 * F3 6) := ⟨_, rfl⟩
  rw [← eF4] at O4
  have v4_10 : F4 10 = (mR cu ca kd W sD ((EL n).1)) * ((EL n).2) := by rw [eF4, va_up_self, v3_8, v3_6]
  have v4_3 : F4 3 = F 3 := (congrFun eF4 3).trans ((va_up_ne _ _ (by omega)).trans v3_3)
  have v4_4 : F4 4 = F 4 := (congrFun eF4 4).trans ((va_up_ne _ _ (by omega)).trans v3_4)
  have v4_5 : F4 5 = (EL n).1 := (congrFun eF4 5).trans ((va_up_ne _ _ (by omega)).trans v3_5)
  have v4_6 : F4 6 = (EL n).2 := (congrFun eF4 6).trans ((va_up_ne _ _ (by omega)).trans v3_6)
  have v4_8 : F4 8 = mR cu ca kd W sD ((EL n).1) := (congrFun eF4 8).trans ((va_up_ne _ _ (by omega)).trans v3_8)
  clear eF4
  refine z_aload_n X 0 rfl rfl dX4_deriveUp_54 ?_
  refine z_aload_n X 0 rfl rfl dX4_deriveUp_55 ?_
  refine z_get X zinX4 0 (by omega) gM_O (ci := 6) rfl 10 (by decide) (ref := "TowerFieldsModel") zw681 rfl rfl dX4_deriveUp_56 ?_
  refine z_aload_n X 0 rfl rfl dX4_deriveUp_59 ?_
  refine z_get X zinX4 0 (by omega) gM_O (ci := 6) rfl 8 (by decide) (ref := "TowerFieldsModel") zw679 rfl rfl dX4_deriveUp_60 ?_
  refine z_callVv X zm_X4_deriveRow zw862 zp42 zw860 (zFit_of (by decide) (by decide)) [.ref (ad (8)), .ref (ad (6))] (q_deriveRow6 HU HA l O4 (mG_F hG (F9 := F4) (v4_3.trans (rfl : F 3 = F 3).symm) (v4_4.trans (rfl : F 4 = F 4).symm)) hS (by rw [v4_6]; exact x1b.2)) rfl rfl (Nat.le_of_ble_eq_true rfl) (by omega) gM_O (q := vwCl[6]) rfl rfl dX4_deriveUp_63 (fun S5 O5 => ?_)
  obtain ⟨F5, O5, k8, k5, k6, k10, k3, k4⟩ := O5
  have v5_8 : F5 8 = mR cu ca kd W sD ((EL n).2) := by rw [k8, v4_6]
  have v5_5 : F5 5 = (EL n).1 := k5.trans v4_5
  have v5_6 : F5 6 = (EL n).2 := k6.trans v4_6
  have v5_10 : F5 10 = (mR cu ca kd W sD ((EL n).1)) * ((EL n).2) := k10.trans v4_10
  have v5_3 : F5 3 = F 3 := k3.trans v4_3
  have v5_4 : F5 4 = F 4 := k4.trans v4_4
  clear k8 k5 k6 k10 k3 k4
  have bd5 : zbb cu ca 8 19 (mR cu ca kd W sD ((EL n).2)) := mR_b HU HA hS.1 x1b.2
  refine z_aload_n X 0 rfl rfl dX4_deriveUp_66 ?_
  refine z_aload_n X 0 rfl rfl dX4_deriveUp_67 ?_
  refine z_get X zinX4 0 (by omega) gM_O (ci := 6) rfl 11 (by decide) (ref := "TowerFieldsModel") zw682 rfl rfl dX4_deriveUp_68 ?_
  refine z_aload_n X 0 rfl rfl dX4_deriveUp_71 ?_
  refine z_get X zinX4 0 (by omega) gM_O (ci := 6) rfl 10 (by decide) (ref := "TowerFieldsModel") zw681 rfl rfl dX4_deriveUp_72 ?_
  refine z_aload_n X 0 rfl rfl dX4_deriveUp_75 ?_
  refine z_get X zinX4 0 (by omega) gM_O (ci := 6) rfl 7 (by decide) (ref := "TowerFieldsModel") zw678 rfl rfl dX4_deriveUp_76 ?_
  have bd6 : zbb cu ca 14 25 ((mR cu ca kd W sD ((EL n).2)) * ((EL n).1)) := zbb_mul HU HA bd5 x1a.2 (by omega) (by omega)
  refine z_callVv X zm_X4_multiply zw794 zp34 zw792 (zFit_of (by decide) (by decide)) [.ref (ad (9)), .ref (ad (8)), .ref (ad (5))] (q_multiply HU HA l O5 (x := 9) (y := 8) (z := 5) (by decide) (by decide) (by decide) (by omega) (by omega) (by rw [v5_8]; exact bd5) (by rw [v5_5]; exact x1a.2) (by omega) (by omega)) rfl rfl (Nat.le_of_ble_eq_true rfl) (by omega) gM_O (q := vwCl[6]) rfl rfl dX4_deriveUp_79 (fun S6 O6 => ?_)
  obtain ⟨F6, eF6⟩ : ∃ F9, F9 = va_up F5 9 (F5 8 * F5 5) := ⟨_, rfl⟩
  rw [← eF6] at O6
  have v6_9 : F6 9 = (mR cu ca kd W sD ((EL n).2)) * ((EL n).1) := by rw [eF6, va_up_self, v5_8, v5_5]
  have v6_3 : F6 3 = F 3 := (congrFun eF6 3).trans ((va_up_ne _ _ (by omega)).trans v5_3)
  have v6_4 : F6 4 = F 4 := (congrFun eF6 4).trans ((va_up_ne _ _ (by omega)).trans v5_4)
  have v6_5 : F6 5 = (EL n).1 := (congrFun eF6 5).trans ((va_up_ne _ _ (by omega)).trans v5_5)
  have v6_6 : F6 6 = (EL n).2 := (congrFun eF6 6).trans ((va_up_ne _ _ (by omega)).trans v5_6)
  have v6_8 : F6 8 = mR cu ca kd W sD ((EL n).2) := (congrFun eF6 8).trans ((va_up_ne _ _ (by omega)).trans v5_8)
  have v6_10 : F6 10 = (mR cu ca kd W sD ((EL n).1)) * ((EL n).2) := (congrFun eF6 10).trans ((va_up_ne _ _ (by omega)).trans v5_10)
  clear eF6
  refine z_aload_n X 0 rfl rfl dX4_deriveUp_82 ?_
  refine z_get X zinX4 0 (by omega) gM_O (ci := 6) rfl 12 (by decide) (ref := "TowerFieldsModel") zw683 rfl rfl dX4_deriveUp_83 ?_
  refine z_aload_n X 0 rfl rfl dX4_deriveUp_86 ?_
  refine z_get X zinX4 0 (by omega) gM_O (ci := 6) rfl 11 (by decide) (ref := "TowerFieldsModel") zw682 rfl rfl dX4_deriveUp_87 ?_
  refine z_iconst X (n := -1) dX4_deriveUp_90 ?_
  have bd7 : zbb cu ca 14 25 (((mR cu ca kd W sD ((EL n).1)) * ((EL n).2)) - ((mR cu ca kd W sD ((EL n).2)) * ((EL n).1))) := zbb_sub HU HA (zbb_le bd4 (by omega) (by omega)) (zbb_le bd6 (by omega) (by omega))
  refine z_callSv X zm_X4_plus zw800 zw799 (zFit_of (by decide) (by decide)) [.ref (ad (10)), .ref (ad (9)), .int (iZ (-1))] (q_plusm HU HA l O6 (x := 10) (y := 9) (by decide) (by decide) (by omega)) rfl rfl (Nat.le_of_ble_eq_true rfl) dX4_deriveUp_91 (fun S7 O7 => ?_)
  obtain ⟨F7, eF7⟩ : ∃ F9, F9 = va_up F6 10 (F6 10 - F6 9) := ⟨_, rfl⟩
  rw [← eF7] at O7
  have v7_10 : F7 10 = ((mR cu ca kd W sD ((EL n).1)) * ((EL n).2)) - ((mR cu ca kd W sD ((EL n).2)) * ((EL n).1)) := by rw [eF7, va_up_self, v6_10, v6_9]
  have v7_3 : F7 3 = F 3 := (congrFun eF7 3).trans ((va_up_ne _ _ (by omega)).trans v6_3)
  have v7_4 : F7 4 = F 4 := (congrFun eF7 4).trans ((va_up_ne _ _ (by omega)).trans v6_4)
  have v7_5 : F7 5 = (EL n).1 := (congrFun eF7 5).trans ((va_up_ne _ _ (by omega)).trans v6_5)
  have v7_6 : F7 6 = (EL n).2 := (congrFun eF7 6).trans ((va_up_ne _ _ (by omega)).trans v6_6)
  have v7_8 : F7 8 = mR cu ca kd W sD ((EL n).2) := (congrFun eF7 8).trans ((va_up_ne _ _ (by omega)).trans v6_8)
  have v7_9 : F7 9 = (mR cu ca kd W sD ((EL n).2)) * ((EL n).1) := (congrFun eF7 9).trans ((va_up_ne _ _ (by omega)).trans v6_9)
  clear eF7
  exact E S7 ⟨F7, O7, v7_10, v7_5, v7_6, v7_3, v7_4⟩ rfl dX4_deriveUp_94
set_option maxHeartbeats 8000000 in
set_option maxRecDepth 100000 in
theorem q_finish66 {U V : Type} [Lean.Grind.CommRing U] [Lean.Grind.CommRing V] {cu : U → Nat → FP} {ca : V → Nat → U} (HU : mp_P cu) (HA : mp_P ca) (l : Launch) {D : va_G} {ad : Nat → Nat} {cI : ClassId} {F : Nat → V} {T : zTM} {M : zM} (hO : zO cu ca F T M) {EL : Int → V × V} {md kd : Int} {W sD : V} {cd : Int} (hG : mG cu ca EL md kd W sD cd F T) (hS : mSl cu ca kd W sD ∧ (0 ≤ kd ∧ kd ≤ 2)) (bX : zbb cu ca 7 7 (F 6)) : zMv l yX4_finish cX4_finish 3 2 D (zTyM cI) 18 ad [.ref (ad 0), .ref (ad (6)), .ref (ad (6))] (gM ad cI M) (gM ad cI) (fun u => ∃ F9, zO cu ca F9 T u ∧ F9 11 = mF kd sD (F 6 * F 6) ∧ F9 10 = F 10 ∧ F9 3 = F 3 ∧ F9 4 = F 4) := by
  have hkd : M.2.2.2.2.1 = kd := (zO_rk hO).trans hG.2.2.2.1
  have hkb := hS.2
  have v0_3 : F 3 = F 3 := rfl
  have v0_4 : F 4 = F 4 := rfl
  have v0_5 : F 5 = F 5 := rfl
  have v0_6 : F 6 = F 6 := rfl
  have v0_10 : F 10 = F 10 := rfl
  refine z_gov zm_X4_finish (Nat.le_of_ble_eq_true rfl) [(0, .ref (ad 0)), (1, .ref (ad (6))), (2, .ref (ad (6)))] rfl (fun p e s m args below meth c A Q X E => ?_)
  refine z_aload_n X 0 rfl rfl dX4_finish_0 ?_
  refine z_aload_n X 0 rfl rfl dX4_finish_1 ?_
  refine z_get X zinX4 0 (by omega) gM_O (ci := 6) rfl 9 (by decide) (ref := "TowerFieldsModel") zw680 rfl rfl dX4_finish_2 ?_
  refine z_aload_n X 1 rfl rfl dX4_finish_5 ?_
  refine z_aload_n X 2 rfl rfl dX4_finish_6 ?_
  have bd1 : zbb cu ca 13 13 ((F 6) * (F 6)) := zbb_mul HU HA bX bX (by omega) (by omega)
  refine z_callVv X zm_X4_multiply zw794 zp34 zw792 (zFit_of (by decide) (by decide)) [.ref (ad (7)), .ref (ad (6)), .ref (ad (6))] (q_multiply HU HA l hO (x := 7) (y := 6) (z := 6) (by decide) (by decide) (by decide) (by omega) (by omega) (by rw [v0_6]; exact bX) (by rw [v0_6]; exact bX) (by omega) (by omega)) rfl rfl (Nat.le_of_ble_eq_true rfl) (by omega) gM_O (q := vwCl[6]) rfl rfl dX4_finish_7 (fun S1 O1 => ?_)
  obtain ⟨F1, eF1⟩ : ∃ F9, F9 = va_up F 7 (F 6 * F 6) := ⟨_, rfl⟩
  rw [← eF1] at O1
  have v1_7 : F1 7 = (F 6) * (F 6) := by rw [eF1, va_up_self, v0_6]
  have v1_3 : F1 3 = F 3 := (congrFun eF1 3).trans ((va_up_ne _ _ (by omega)).trans v0_3)
  have v1_4 : F1 4 = F 4 := (congrFun eF1 4).trans ((va_up_ne _ _ (by omega)).trans v0_4)
  have v1_5 : F1 5 = F 5 := (congrFun eF1 5).trans ((va_up_ne _ _ (by omega)).trans v0_5)
  have v1_6 : F1 6 = F 6 := (congrFun eF1 6).trans ((va_up_ne _ _ (by omega)).trans v0_6)
  have v1_10 : F1 10 = F 10 := (congrFun eF1 10).trans ((va_up_ne _ _ (by omega)).trans v0_10)
  clear eF1
  refine z_aload_n X 0 rfl rfl dX4_finish_10 ?_
  have hkd1 : S1.2.2.2.2.1 = kd := (zO_rk O1).trans hG.2.2.2.1
  refine z_get X zinX4 0 (by omega) gM_O (ci := 6) rfl 4 (by decide) (ref := "TowerFieldsModel") zw675 rfl rfl dX4_finish_11 ?_
  refine z_eqi (b := kd) hkd1 ?_
  refine z_if_ne X (tgt := 31) (by omega) dX4_finish_14 (by decide) (fun hb14 => ?_) (fun hb14 => ?_)
  · obtain ⟨hW, hs9⟩ := hG.2.2.2.2 (by omega)
    obtain ⟨bW, bs, -⟩ := hS.1 (by omega)
    have w_3 : F1 3 = W := v1_3.trans hW
    have w_4 : F1 4 = sD := v1_4.trans hs9
    refine z_aload_n X 0 rfl rfl dX4_finish_31 ?_
    refine z_aload_n X 0 rfl rfl dX4_finish_32 ?_
    refine z_get X zinX4 0 (by omega) gM_O (ci := 6) rfl 13 (by decide) (ref := "TowerFieldsModel") zw684 rfl rfl dX4_finish_33 ?_
    refine z_aload_n X 0 rfl rfl dX4_finish_36 ?_
    refine z_get X zinX4 0 (by omega) gM_O (ci := 6) rfl 9 (by decide) (ref := "TowerFieldsModel") zw680 rfl rfl dX4_finish_37 ?_
    refine z_aload_n X 0 rfl rfl dX4_finish_40 ?_
    refine z_get X zinX4 0 (by omega) gM_O (ci := 6) rfl 6 (by decide) (ref := "TowerFieldsModel") zw677 rfl rfl dX4_finish_41 ?_
    have bd2 : zbb cu ca 13 25 (((F 6) * (F 6)) * sD) := zbb_mul HU HA bd1 bs (by omega) (by omega)
    refine z_callVv X zm_X4_multiply zw794 zp34 zw792 (zFit_of (by decide) (by decide)) [.ref (ad (11)), .ref (ad (7)), .ref (ad (4))] (q_multiply HU HA l O1 (x := 11) (y := 7) (z := 4) (by decide) (by decide) (by decide) (by omega) (by omega) (by rw [v1_7]; exact bd1) (by rw [w_4]; exact bs) (by omega) (by omega)) rfl rfl (Nat.le_of_ble_eq_true rfl) (by omega) gM_O (q := vwCl[6]) rfl rfl dX4_finish_44 (fun S2 O2 => ?_)
    obtain ⟨F2, eF2⟩ : ∃ F9, F9 = va_up F1 11 (F1 7 * F1 4) := ⟨_, rfl⟩
    rw [← eF2] at O2
    have v2_11 : F2 11 = ((F 6) * (F 6)) * sD := by rw [eF2, va_up_self, v1_7, w_4]
    have v2_3 : F2 3 = W := (congrFun eF2 3).trans ((va_up_ne _ _ (by omega)).trans w_3)
    have v2_4 : F2 4 = sD := (congrFun eF2 4).trans ((va_up_ne _ _ (by omega)).trans w_4)
    have v2_5 : F2 5 = F 5 := (congrFun eF2 5).trans ((va_up_ne _ _ (by omega)).trans v1_5)
    have v2_6 : F2 6 = F 6 := (congrFun eF2 6).trans ((va_up_ne _ _ (by omega)).trans v1_6)
    have v2_10 : F2 10 = F 10 := (congrFun eF2 10).trans ((va_up_ne _ _ (by omega)).trans v1_10)
    have v2_7 : F2 7 = (F 6) * (F 6) := (congrFun eF2 7).trans ((va_up_ne _ _ (by omega)).trans v1_7)
    clear eF2
    exact E S2 ⟨F2, O2, by rw [v2_11, mF, if_neg (by omega)], v2_10, v2_3.trans hW.symm, v2_4.trans hs9.symm⟩ rfl dX4_finish_47
  · refine z_aload_n X 0 rfl rfl dX4_finish_17 ?_
    refine z_get X zinX4 0 (by omega) gM_O (ci := 6) rfl 13 (by decide) (ref := "TowerFieldsModel") zw684 rfl rfl dX4_finish_18 ?_
    refine z_aload_n X 0 rfl rfl dX4_finish_21 ?_
    refine z_get X zinX4 0 (by omega) gM_O (ci := 6) rfl 9 (by decide) (ref := "TowerFieldsModel") zw680 rfl rfl dX4_finish_22 ?_
    refine z_callSv X zm_X4_copy zw806 zw805 (zFit_of (by decide) (by decide)) [.ref (ad (11)), .ref (ad (7))] (q_copy HU HA l O1 (x := 11) (y := 7) (by decide) (by decide) (by omega)) rfl rfl (Nat.le_of_ble_eq_true rfl) dX4_finish_25 (fun S3 O3 => ?_)
    obtain ⟨F3, eF3⟩ : ∃ F9, F9 = va_up F1 11 (F1 7) := ⟨_, rfl⟩
    rw [← eF3] at O3
    have v3_11 : F3 11 = (F 6) * (F 6) := by rw [eF3, va_up_self, v1_7]
    have v3_3 : F3 3 = F 3 := (congrFun eF3 3).trans ((va_up_ne _ _ (by omega)).trans v1_3)
    have v3_4 : F3 4 = F 4 := (congrFun eF3 4).trans ((va_up_ne _ _ (by omega)).trans v1_4)
    have v3_5 : F3 5 = F 5 := (congrFun eF3 5).trans ((va_up_ne _ _ (by omega)).trans v1_5)
    have v3_6 : F3 6 = F 6 := (congrFun eF3 6).trans ((va_up_ne _ _ (by omega)).trans v1_6)
    have v3_10 : F3 10 = F 10 := (congrFun eF3 10).trans ((va_up_ne _ _ (by omega)).trans v1_10)
    have v3_7 : F3 7 = (F 6) * (F 6) := (congrFun eF3 7).trans ((va_up_ne _ _ (by omega)).trans v1_7)
    clear eF3
    refine z_goto X (tgt := 47) dX4_finish_28 (by decide) ?_
    exact E S3 ⟨F3, O3, by rw [v3_11, mF, if_pos (by omega)], v3_10, v3_3, v3_4⟩ rfl dX4_finish_47
set_option maxHeartbeats 8000000 in
set_option maxRecDepth 100000 in
theorem q_finish56 {U V : Type} [Lean.Grind.CommRing U] [Lean.Grind.CommRing V] {cu : U → Nat → FP} {ca : V → Nat → U} (HU : mp_P cu) (HA : mp_P ca) (l : Launch) {D : va_G} {ad : Nat → Nat} {cI : ClassId} {F : Nat → V} {T : zTM} {M : zM} (hO : zO cu ca F T M) {EL : Int → V × V} {md kd : Int} {W sD : V} {cd : Int} (hG : mG cu ca EL md kd W sD cd F T) (hS : mSl cu ca kd W sD ∧ (0 ≤ kd ∧ kd ≤ 2)) (bX : zbb cu ca 7 7 (F 5)) (bY : zbb cu ca 7 7 (F 6)) : zMv l yX4_finish cX4_finish 3 2 D (zTyM cI) 18 ad [.ref (ad 0), .ref (ad (5)), .ref (ad (6))] (gM ad cI M) (gM ad cI) (fun u => ∃ F9, zO cu ca F9 T u ∧ F9 11 = mF kd sD (F 5 * F 6) ∧ F9 10 = F 10 ∧ F9 3 = F 3 ∧ F9 4 = F 4) := by
  have hkd : M.2.2.2.2.1 = kd := (zO_rk hO).trans hG.2.2.2.1
  have hkb := hS.2
  have v0_3 : F 3 = F 3 := rfl
  have v0_4 : F 4 = F 4 := rfl
  have v0_5 : F 5 = F 5 := rfl
  have v0_6 : F 6 = F 6 := rfl
  have v0_10 : F 10 = F 10 := rfl
  refine z_gov zm_X4_finish (Nat.le_of_ble_eq_true rfl) [(0, .ref (ad 0)), (1, .ref (ad (5))), (2, .ref (ad (6)))] rfl (fun p e s m args below meth c A Q X E => ?_)
  refine z_aload_n X 0 rfl rfl dX4_finish_0 ?_
  refine z_aload_n X 0 rfl rfl dX4_finish_1 ?_
  refine z_get X zinX4 0 (by omega) gM_O (ci := 6) rfl 9 (by decide) (ref := "TowerFieldsModel") zw680 rfl rfl dX4_finish_2 ?_
  refine z_aload_n X 1 rfl rfl dX4_finish_5 ?_
  refine z_aload_n X 2 rfl rfl dX4_finish_6 ?_
  have bd1 : zbb cu ca 13 13 ((F 5) * (F 6)) := zbb_mul HU HA bX bY (by omega) (by omega)
  refine z_callVv X zm_X4_multiply zw794 zp34 zw792 (zFit_of (by decide) (by decide)) [.ref (ad (7)), .ref (ad (5)), .ref (ad (6))] (q_multiply HU HA l hO (x := 7) (y := 5) (z := 6) (by decide) (by decide) (by decide) (by omega) (by omega) (by rw [v0_5]; exact bX) (by rw [v0_6]; exact bY) (by omega) (by omega)) rfl rfl (Nat.le_of_ble_eq_true rfl) (by omega) gM_O (q := vwCl[6]) rfl rfl dX4_finish_7 (fun S1 O1 => ?_)
  obtain ⟨F1, eF1⟩ : ∃ F9, F9 = va_up F 7 (F 5 * F 6) := ⟨_, rfl⟩
  rw [← eF1] at O1
  have v1_7 : F1 7 = (F 5) * (F 6) := by rw [eF1, va_up_self, v0_5, v0_6]
  have v1_3 : F1 3 = F 3 := (congrFun eF1 3).trans ((va_up_ne _ _ (by omega)).trans v0_3)
  have v1_4 : F1 4 = F 4 := (congrFun eF1 4).trans ((va_up_ne _ _ (by omega)).trans v0_4)
  have v1_5 : F1 5 = F 5 := (congrFun eF1 5).trans ((va_up_ne _ _ (by omega)).trans v0_5)
  have v1_6 : F1 6 = F 6 := (congrFun eF1 6).trans ((va_up_ne _ _ (by omega)).trans v0_6)
  have v1_10 : F1 10 = F 10 := (congrFun eF1 10).trans ((va_up_ne _ _ (by omega)).trans v0_10)
  clear eF1
  refine z_aload_n X 0 rfl rfl dX4_finish_10 ?_
  have hkd1 : S1.2.2.2.2.1 = kd := (zO_rk O1).trans hG.2.2.2.1
  refine z_get X zinX4 0 (by omega) gM_O (ci := 6) rfl 4 (by decide) (ref := "TowerFieldsModel") zw675 rfl rfl dX4_finish_11 ?_
  refine z_eqi (b := kd) hkd1 ?_
  refine z_if_ne X (tgt := 31) (by omega) dX4_finish_14 (by decide) (fun hb14 => ?_) (fun hb14 => ?_)
  · obtain ⟨hW, hs9⟩ := hG.2.2.2.2 (by omega)
    obtain ⟨bW, bs, -⟩ := hS.1 (by omega)
    have w_3 : F1 3 = W := v1_3.trans hW
    have w_4 : F1 4 = sD := v1_4.trans hs9
    refine z_aload_n X 0 rfl rfl dX4_finish_31 ?_
    refine z_aload_n X 0 rfl rfl dX4_finish_32 ?_
    refine z_get X zinX4 0 (by omega) gM_O (ci := 6) rfl 13 (by decide) (ref := "TowerFieldsModel") zw684 rfl rfl dX4_finish_33 ?_
    refine z_aload_n X 0 rfl rfl dX4_finish_36 ?_
    refine z_get X zinX4 0 (by omega) gM_O (ci := 6) rfl 9 (by decide) (ref := "TowerFieldsModel") zw680 rfl rfl dX4_finish_37 ?_
    refine z_aload_n X 0 rfl rfl dX4_finish_40 ?_
    refine z_get X zinX4 0 (by omega) gM_O (ci := 6) rfl 6 (by decide) (ref := "TowerFieldsModel") zw677 rfl rfl dX4_finish_41 ?_
    have bd2 : zbb cu ca 13 25 (((F 5) * (F 6)) * sD) := zbb_mul HU HA bd1 bs (by omega) (by omega)
    refine z_callVv X zm_X4_multiply zw794 zp34 zw792 (zFit_of (by decide) (by decide)) [.ref (ad (11)), .ref (ad (7)), .ref (ad (4))] (q_multiply HU HA l O1 (x := 11) (y := 7) (z := 4) (by decide) (by decide) (by decide) (by omega) (by omega) (by rw [v1_7]; exact bd1) (by rw [w_4]; exact bs) (by omega) (by omega)) rfl rfl (Nat.le_of_ble_eq_true rfl) (by omega) gM_O (q := vwCl[6]) rfl rfl dX4_finish_44 (fun S2 O2 => ?_)
    obtain ⟨F2, eF2⟩ : ∃ F9, F9 = va_up F1 11 (F1 7 * F1 4) := ⟨_, rfl⟩
    rw [← eF2] at O2
    have v2_11 : F2 11 = ((F 5) * (F 6)) * sD := by rw [eF2, va_up_self, v1_7, w_4]
    have v2_3 : F2 3 = W := (congrFun eF2 3).trans ((va_up_ne _ _ (by omega)).trans w_3)
    have v2_4 : F2 4 = sD := (congrFun eF2 4).trans ((va_up_ne _ _ (by omega)).trans w_4)
    have v2_5 : F2 5 = F 5 := (congrFun eF2 5).trans ((va_up_ne _ _ (by omega)).trans v1_5)
    have v2_6 : F2 6 = F 6 := (congrFun eF2 6).trans ((va_up_ne _ _ (by omega)).trans v1_6)
    have v2_10 : F2 10 = F 10 := (congrFun eF2 10).trans ((va_up_ne _ _ (by omega)).trans v1_10)
    have v2_7 : F2 7 = (F 5) * (F 6) := (congrFun eF2 7).trans ((va_up_ne _ _ (by omega)).trans v1_7)
    clear eF2
    exact E S2 ⟨F2, O2, by rw [v2_11, mF, if_neg (by omega)], v2_10, v2_3.trans hW.symm, v2_4.trans hs9.symm⟩ rfl dX4_finish_47
  · refine z_aload_n X 0 rfl rfl dX4_finish_17 ?_
    refine z_get X zinX4 0 (by omega) gM_O (ci := 6) rfl 13 (by decide) (ref := "TowerFieldsModel") zw684 rfl rfl dX4_finish_18 ?_
    refine z_aload_n X 0 rfl rfl dX4_finish_21 ?_
    refine z_get X zinX4 0 (by omega) gM_O (ci := 6) rfl 9 (by decide) (ref := "TowerFieldsModel") zw680 rfl rfl dX4_finish_22 ?_
    refine z_callSv X zm_X4_copy zw806 zw805 (zFit_of (by decide) (by decide)) [.ref (ad (11)), .ref (ad (7))] (q_copy HU HA l O1 (x := 11) (y := 7) (by decide) (by decide) (by omega)) rfl rfl (Nat.le_of_ble_eq_true rfl) dX4_finish_25 (fun S3 O3 => ?_)
    obtain ⟨F3, eF3⟩ : ∃ F9, F9 = va_up F1 11 (F1 7) := ⟨_, rfl⟩
    rw [← eF3] at O3
    have v3_11 : F3 11 = (F 5) * (F 6) := by rw [eF3, va_up_self, v1_7]
    have v3_3 : F3 3 = F 3 := (congrFun eF3 3).trans ((va_up_ne _ _ (by omega)).trans v1_3)
    have v3_4 : F3 4 = F 4 := (congrFun eF3 4).trans ((va_up_ne _ _ (by omega)).trans v1_4)
    have v3_5 : F3 5 = F 5 := (congrFun eF3 5).trans ((va_up_ne _ _ (by omega)).trans v1_5)
    have v3_6 : F3 6 = F 6 := (congrFun eF3 6).trans ((va_up_ne _ _ (by omega)).trans v1_6)
    have v3_10 : F3 10 = F 10 := (congrFun eF3 10).trans ((va_up_ne _ _ (by omega)).trans v1_10)
    have v3_7 : F3 7 = (F 5) * (F 6) := (congrFun eF3 7).trans ((va_up_ne _ _ (by omega)).trans v1_7)
    clear eF3
    refine z_goto X (tgt := 47) dX4_finish_28 (by decide) ?_
    exact E S3 ⟨F3, O3, by rw [v3_11, mF, if_pos (by omega)], v3_10, v3_3, v3_4⟩ rfl dX4_finish_47
set_option maxHeartbeats 8000000 in
set_option maxRecDepth 100000 in
theorem c_X4_derive {U V : Type} [Lean.Grind.CommRing U] [Lean.Grind.CommRing V] {cu : U → Nat → FP} {ca : V → Nat → U} (HU : mp_P cu) (HA : mp_P ca) (l : Launch) {D : va_G} {ad : Nat → Nat} {cI : ClassId} {EL : Int → V × V} {md kd : Int} {W sD : V} {cd : Int} {M : zM} (hC : zGm cu ca EL md kd W sD cd M) {n : Int} (hn : -2147483648 ≤ n ∧ n < 2147483648) (hnz : ∀ n, 0 ≤ n → n < md → (EL n).2 ≠ 0) : zMi l yX4_derive cX4_derive 2 (some .int) 4 D (zTyM cI) 18 ad [.ref (ad 0), .int (iZ (n))] (gM ad cI M) (gM ad cI) (fun z u => (¬ (0 ≤ n ∧ n < md) ∧ zGm cu ca EL md kd W sD 1 u) ∨ ((0 ≤ n ∧ n < md) ∧ ¬ md < 120 ∧ zGm cu ca EL md kd W sD 2 u) ∨ ((0 ≤ n ∧ n < md) ∧ md < 120 ∧ z = md ∧ ∃ p q, zLow cu ca (mR cu ca kd W sD (EL n).1 * (EL n).2 - mR cu ca kd W sD (EL n).2 * (EL n).1) (mF kd sD ((EL n).2 * (EL n).2)) p q ∧ zFits cu ca p q ∧ zGm cu ca (zUp EL md (p, q)) (md + 1) kd W sD 0 u) ∨ ((0 ≤ n ∧ n < md) ∧ md < 120 ∧ (∃ p q, zLow cu ca (mR cu ca kd W sD (EL n).1 * (EL n).2 - mR cu ca kd W sD (EL n).2 * (EL n).1) (mF kd sD ((EL n).2 * (EL n).2)) p q ∧ ¬ zFits cu ca p q) ∧ zGm cu ca EL md kd W sD 2 u)) := by
  have hC0 := hC
  obtain ⟨⟨F, T, hO, hG⟩, hS⟩ := hC
  have hmd : M.2.2.2.1 = md := (zO_rm hO).trans hG.2.2.1
  have hkd : M.2.2.2.2.1 = kd := (zO_rk hO).trans hG.2.2.2.1
  have hm : 0 ≤ md ∧ md ≤ 120 := by
    have q1 := hG.1.1
    have q2 := hG.1.2.1
    rw [hG.2.2.1] at q1 q2
    exact ⟨q1, q2⟩
  have hel : ∀ n, 0 ≤ n → n < md → mEl cu ca T.1 n (EL n).1 ∧ mEl cu ca T.2.1 n (EL n).2 := fun n h0 h1 => hG.1.2.2 n h0 (by rw [hG.2.2.1]; exact h1)
  refine z_goi zm_X4_derive (Nat.le_of_ble_eq_true rfl) [(0, .ref (ad 0)), (1, .int (iZ (n)))] rfl (fun p e s m args below meth c A Q X E => ?_)
  refine z_aload_n X 0 rfl rfl dX4_derive_0 ?_
  refine z_iload_n X 1 rfl rfl dX4_derive_1 ?_
  refine z_iload_n X 1 rfl rfl dX4_derive_2 ?_
  refine z_callVi X zm_X4_are zw771 zp29 zw769 (zFit_of (by decide) (by decide)) [.int (iZ (n)), .int (iZ (n))] (c_X4_are l M hn hn hmd hm) rfl rfl (Nat.le_of_ble_eq_true rfl) (by omega) gM_O (q := vwCl[6]) rfl rfl dX4_derive_3 (fun z1 S1 hz1 => ?_)
  have hy1 : z1 = 0 ∨ z1 = 1 := by
    rcases hz1 with q | q | q
    · exact Or.inl q.2.1
    · exact Or.inl q.2.2.1
    · exact Or.inr q.2.2.1
  refine z_if_ne X (tgt := 11) (by omega) dX4_derive_6 (by decide) (fun hb6 => ?_) (fun hb6 => ?_)
  · obtain ⟨hd, hlt, eS1⟩ : ((0 ≤ n ∧ n < md) ∧ (0 ≤ n ∧ n < md)) ∧ md < 120 ∧ S1 = fcode M 0 := by
      rcases hz1 with q | q | q
      · exact absurd q.2.1 (by omega)
      · exact absurd q.2.2.1 (by omega)
      · exact ⟨q.1, q.2.1, q.2.2.2⟩
    have O1 := zO_code hO (0)
    rw [← eS1] at O1
    have G1 := mG_code hG (0)
    have hcode1 : S1.2.2.1 = 0 := by rw [eS1]; rfl
    have hmd1 : S1.2.2.2.1 = md := (zO_rm O1).trans G1.2.2.1
    have hkd1 : S1.2.2.2.2.1 = kd := (zO_rk O1).trans G1.2.2.2.1
    obtain ⟨x1a, x1b⟩ := hel n (by omega) (by omega)
    have hAd := mp_dom HA (mp_dom HU (mp_Fd_nz mp_FP))
    have hnz1 := hnz n (by omega) (by omega)
    have hd1 : (0 ≤ n ∧ n < md) := hd.1
    refine z_aload_n X 0 rfl rfl dX4_derive_11 ?_
    refine z_iload_n X 1 rfl rfl dX4_derive_12 ?_
    refine z_callVv X zm_X4_deriveUp zw858 zp41 zw856 (zFit_of (by decide) (by decide)) [.int (iZ (n))] (q_deriveUp HU HA l O1 G1 hS (n := n) (by omega)) rfl rfl (Nat.le_of_ble_eq_true rfl) (by omega) gM_O (q := vwCl[6]) rfl rfl dX4_derive_13 (fun S2 O2 => ?_)
    obtain ⟨F2, O2, k10, k5, k6, k3, k4⟩ := O2
    have v2_3 : F2 3 = F 3 := k3.trans rfl
    have v2_4 : F2 4 = F 4 := k4.trans rfl
    have v2_10 : F2 10 = mR cu ca kd W sD (EL n).1 * (EL n).2 - mR cu ca kd W sD (EL n).2 * (EL n).1 := k10
    have v2_5 : F2 5 = (EL n).1 := k5
    have v2_6 : F2 6 = (EL n).2 := k6
    clear k10 k5 k6 k3 k4
    have bdu : zbb cu ca 14 25 (mR cu ca kd W sD (EL n).1 * (EL n).2 - mR cu ca kd W sD (EL n).2 * (EL n).1) := zbb_sub HU HA (zbb_mul HU HA (mR_b HU HA hS.1 x1a.2) x1b.2 (by omega) (by omega)) (zbb_mul HU HA (mR_b HU HA hS.1 x1b.2) x1a.2 (by omega) (by omega))
    refine z_aload_n X 0 rfl rfl dX4_derive_16 ?_
    refine z_aload_n X 0 rfl rfl dX4_derive_17 ?_
    refine z_get X zinX4 0 (by omega) gM_O (ci := 6) rfl 8 (by decide) (ref := "TowerFieldsModel") zw679 rfl rfl dX4_derive_18 ?_
    refine z_aload_n X 0 rfl rfl dX4_derive_21 ?_
    refine z_get X zinX4 0 (by omega) gM_O (ci := 6) rfl 8 (by decide) (ref := "TowerFieldsModel") zw679 rfl rfl dX4_derive_22 ?_
    refine z_callVv X zm_X4_finish zw866 zp43 zw864 (zFit_of (by decide) (by decide)) [.ref (ad (6)), .ref (ad (6))] (q_finish66 HU HA l O2 (mG_F G1 (F9 := F2) (v2_3.trans (rfl : F 3 = F 3).symm) (v2_4.trans (rfl : F 4 = F 4).symm)) hS (by rw [v2_6]; exact x1b.2) ) rfl rfl (Nat.le_of_ble_eq_true rfl) (by omega) gM_O (q := vwCl[6]) rfl rfl dX4_derive_25 (fun S3 O3 => ?_)
    obtain ⟨F3, O3, k11, k10, k3, k4⟩ := O3
    have v3_3 : F3 3 = F 3 := k3.trans v2_3
    have v3_4 : F3 4 = F 4 := k4.trans v2_4
    have v3_10 : F3 10 = mR cu ca kd W sD (EL n).1 * (EL n).2 - mR cu ca kd W sD (EL n).2 * (EL n).1 := k10.trans v2_10
    have v3_11 : F3 11 = mF kd sD ((EL n).2 * (EL n).2) := by rw [k11, v2_6]
    clear k10 k11 k3 k4
    have bdf : zbb cu ca 13 25 (mF kd sD ((EL n).2 * (EL n).2)) := mF_b HU HA hS.1 (zbb_mul HU HA x1b.2 x1b.2 (by omega) (by omega))
    refine z_aload_n X 0 rfl rfl dX4_derive_28 ?_
    refine z_iconst X (n := 2) dX4_derive_29 ?_
    refine z_callVi X zm_X4_made zw838 zp40 zw836 (zFit_of (by decide) (by decide)) [.int (iZ (2))] (q_made HU HA l O3 (mG_F G1 (F9 := F3) (v3_3.trans (rfl : F 3 = F 3).symm) (v3_4.trans (rfl : F 4 = F 4).symm)) hS hlt (by rw [v3_11]; exact mF_n HU HA hS.1 (mp_nz_mul hAd hnz1 hnz1)) (by rw [v3_10]; exact zbb_le bdu (by omega) (by omega)) (by rw [v3_11]; exact zbb_le bdf (by omega) (by omega)) 2) rfl rfl (Nat.le_of_ble_eq_true rfl) (by omega) gM_O (q := vwCl[6]) rfl rfl dX4_derive_30 (fun z4 S4 hz4 => ?_)
    rw [v3_10, v3_11] at hz4
    rcases hz4 with ⟨q1, p, q, q2, q3, q4⟩ | ⟨q1, q2⟩
    · exact E S4 (Or.inr (Or.inr (Or.inl ⟨hd1, hlt, q1, p, q, q2, q3, q4⟩))) rfl dX4_derive_33
    · exact E S4 (Or.inr (Or.inr (Or.inr ⟨hd1, hlt, q1, q2⟩))) rfl dX4_derive_33
  · refine z_iconst X (n := 0) dX4_derive_9 ?_
    rcases hz1 with ⟨q1, q2, q3⟩ | ⟨q1, q2, q3, q4⟩ | ⟨q1, q2, q3, q4⟩
    · exact E S1 (Or.inl ⟨fun q => q1 ⟨q, q⟩, by rw [q3]; exact zGm_code hC0 1⟩) rfl dX4_derive_10
    · exact E S1 (Or.inr (Or.inl ⟨q1.1, q2, by rw [q4]; exact zGm_code hC0 2⟩)) rfl dX4_derive_10
    · exact absurd q3 (by omega)
set_option maxHeartbeats 8000000 in
set_option maxRecDepth 100000 in
theorem c_X4_logarithmic {U V : Type} [Lean.Grind.CommRing U] [Lean.Grind.CommRing V] {cu : U → Nat → FP} {ca : V → Nat → U} (HU : mp_P cu) (HA : mp_P ca) (l : Launch) {D : va_G} {ad : Nat → Nat} {cI : ClassId} {EL : Int → V × V} {md kd : Int} {W sD : V} {cd : Int} {M : zM} (hC : zGm cu ca EL md kd W sD cd M) {n : Int} (hn : -2147483648 ≤ n ∧ n < 2147483648) (hnz : ∀ n, 0 ≤ n → n < md → (EL n).2 ≠ 0) : zMi l yX4_logarithmic cX4_logarithmic 2 (some .int) 4 D (zTyM cI) 18 ad [.ref (ad 0), .int (iZ (n))] (gM ad cI M) (gM ad cI) (fun z u => (¬ (0 ≤ n ∧ n < md) ∧ zGm cu ca EL md kd W sD 1 u) ∨ ((0 ≤ n ∧ n < md) ∧ ¬ md < 120 ∧ zGm cu ca EL md kd W sD 2 u) ∨ ((0 ≤ n ∧ n < md) ∧ md < 120 ∧ (EL n).1 ≠ 0 ∧ z = md ∧ ∃ p q, zLow cu ca (mR cu ca kd W sD (EL n).1 * (EL n).2 - mR cu ca kd W sD (EL n).2 * (EL n).1) (mF kd sD ((EL n).1 * (EL n).2)) p q ∧ zFits cu ca p q ∧ zGm cu ca (zUp EL md (p, q)) (md + 1) kd W sD 0 u) ∨ ((0 ≤ n ∧ n < md) ∧ md < 120 ∧ (EL n).1 ≠ 0 ∧ (∃ p q, zLow cu ca (mR cu ca kd W sD (EL n).1 * (EL n).2 - mR cu ca kd W sD (EL n).2 * (EL n).1) (mF kd sD ((EL n).1 * (EL n).2)) p q ∧ ¬ zFits cu ca p q) ∧ zGm cu ca EL md kd W sD 2 u) ∨ ((0 ≤ n ∧ n < md) ∧ md < 120 ∧ (EL n).1 = 0 ∧ z = -1 ∧ zGm cu ca EL md kd W sD 0 u)) := by
  have hC0 := hC
  obtain ⟨⟨F, T, hO, hG⟩, hS⟩ := hC
  have hmd : M.2.2.2.1 = md := (zO_rm hO).trans hG.2.2.1
  have hkd : M.2.2.2.2.1 = kd := (zO_rk hO).trans hG.2.2.2.1
  have hm : 0 ≤ md ∧ md ≤ 120 := by
    have q1 := hG.1.1
    have q2 := hG.1.2.1
    rw [hG.2.2.1] at q1 q2
    exact ⟨q1, q2⟩
  have hel : ∀ n, 0 ≤ n → n < md → mEl cu ca T.1 n (EL n).1 ∧ mEl cu ca T.2.1 n (EL n).2 := fun n h0 h1 => hG.1.2.2 n h0 (by rw [hG.2.2.1]; exact h1)
  refine z_goi zm_X4_logarithmic (Nat.le_of_ble_eq_true rfl) [(0, .ref (ad 0)), (1, .int (iZ (n)))] rfl (fun p e s m args below meth c A Q X E => ?_)
  refine z_aload_n X 0 rfl rfl dX4_logarithmic_0 ?_
  refine z_iload_n X 1 rfl rfl dX4_logarithmic_1 ?_
  refine z_iload_n X 1 rfl rfl dX4_logarithmic_2 ?_
  refine z_callVi X zm_X4_are zw771 zp29 zw769 (zFit_of (by decide) (by decide)) [.int (iZ (n)), .int (iZ (n))] (c_X4_are l M hn hn hmd hm) rfl rfl (Nat.le_of_ble_eq_true rfl) (by omega) gM_O (q := vwCl[6]) rfl rfl dX4_logarithmic_3 (fun z1 S1 hz1 => ?_)
  have hy1 : z1 = 0 ∨ z1 = 1 := by
    rcases hz1 with q | q | q
    · exact Or.inl q.2.1
    · exact Or.inl q.2.2.1
    · exact Or.inr q.2.2.1
  refine z_if_ne X (tgt := 11) (by omega) dX4_logarithmic_6 (by decide) (fun hb6 => ?_) (fun hb6 => ?_)
  · obtain ⟨hd, hlt, eS1⟩ : ((0 ≤ n ∧ n < md) ∧ (0 ≤ n ∧ n < md)) ∧ md < 120 ∧ S1 = fcode M 0 := by
      rcases hz1 with q | q | q
      · exact absurd q.2.1 (by omega)
      · exact absurd q.2.2.1 (by omega)
      · exact ⟨q.1, q.2.1, q.2.2.2⟩
    have O1 := zO_code hO (0)
    rw [← eS1] at O1
    have G1 := mG_code hG (0)
    have hcode1 : S1.2.2.1 = 0 := by rw [eS1]; rfl
    have hmd1 : S1.2.2.2.1 = md := (zO_rm O1).trans G1.2.2.1
    have hkd1 : S1.2.2.2.2.1 = kd := (zO_rk O1).trans G1.2.2.2.1
    obtain ⟨x1a, x1b⟩ := hel n (by omega) (by omega)
    have hAd := mp_dom HA (mp_dom HU (mp_Fd_nz mp_FP))
    have hnz1 := hnz n (by omega) (by omega)
    have hd1 : (0 ≤ n ∧ n < md) := hd.1
    refine z_aload_n X 0 rfl rfl dX4_logarithmic_11 ?_
    refine z_iload_n X 1 rfl rfl dX4_logarithmic_12 ?_
    refine z_callVv X zm_X4_deriveUp zw858 zp41 zw856 (zFit_of (by decide) (by decide)) [.int (iZ (n))] (q_deriveUp HU HA l O1 G1 hS (n := n) (by omega)) rfl rfl (Nat.le_of_ble_eq_true rfl) (by omega) gM_O (q := vwCl[6]) rfl rfl dX4_logarithmic_13 (fun S2 O2 => ?_)
    obtain ⟨F2, O2, k10, k5, k6, k3, k4⟩ := O2
    have v2_3 : F2 3 = F 3 := k3.trans rfl
    have v2_4 : F2 4 = F 4 := k4.trans rfl
    have v2_10 : F2 10 = mR cu ca kd W sD (EL n).1 * (EL n).2 - mR cu ca kd W sD (EL n).2 * (EL n).1 := k10
    have v2_5 : F2 5 = (EL n).1 := k5
    have v2_6 : F2 6 = (EL n).2 := k6
    clear k10 k5 k6 k3 k4
    have bdu : zbb cu ca 14 25 (mR cu ca kd W sD (EL n).1 * (EL n).2 - mR cu ca kd W sD (EL n).2 * (EL n).1) := zbb_sub HU HA (zbb_mul HU HA (mR_b HU HA hS.1 x1a.2) x1b.2 (by omega) (by omega)) (zbb_mul HU HA (mR_b HU HA hS.1 x1b.2) x1a.2 (by omega) (by omega))
    refine z_aload_n X 0 rfl rfl dX4_logarithmic_16 ?_
    refine z_get X zinX4 0 (by omega) gM_O (ci := 6) rfl 7 (by decide) (ref := "TowerFieldsModel") zw678 rfl rfl dX4_logarithmic_17 ?_
    refine z_callSi X zm_X4_isNone zw803 zw802 (zFit_of (by decide) (by decide)) [.ref (ad (5))] (q_isNone HU HA l O2 (x := 5) (by decide)) rfl rfl (Nat.le_of_ble_eq_true rfl) dX4_logarithmic_20 (fun z20 _ hz20 => ?_)
    rw [v2_5] at hz20
    have hy20 : z20 = 0 ∨ z20 = 1 := hz20.elim (fun q => Or.inr q.1) (fun q => Or.inl q.1)
    refine z_if_eq X (tgt := 28) (by omega) dX4_logarithmic_23 (by decide) (fun hb23 => ?_) (fun hb23 => ?_)
    · refine z_aload_n X 0 rfl rfl dX4_logarithmic_28 ?_
      refine z_aload_n X 0 rfl rfl dX4_logarithmic_29 ?_
      refine z_get X zinX4 0 (by omega) gM_O (ci := 6) rfl 7 (by decide) (ref := "TowerFieldsModel") zw678 rfl rfl dX4_logarithmic_30 ?_
      refine z_aload_n X 0 rfl rfl dX4_logarithmic_33 ?_
      refine z_get X zinX4 0 (by omega) gM_O (ci := 6) rfl 8 (by decide) (ref := "TowerFieldsModel") zw679 rfl rfl dX4_logarithmic_34 ?_
      refine z_callVv X zm_X4_finish zw866 zp43 zw864 (zFit_of (by decide) (by decide)) [.ref (ad (5)), .ref (ad (6))] (q_finish56 HU HA l O2 (mG_F G1 (F9 := F2) (v2_3.trans (rfl : F 3 = F 3).symm) (v2_4.trans (rfl : F 4 = F 4).symm)) hS (by rw [v2_5]; exact x1a.2) (by rw [v2_6]; exact x1b.2)) rfl rfl (Nat.le_of_ble_eq_true rfl) (by omega) gM_O (q := vwCl[6]) rfl rfl dX4_logarithmic_37 (fun S4 O4 => ?_)
      obtain ⟨F4, O4, k11, k10, k3, k4⟩ := O4
      have v4_3 : F4 3 = F 3 := k3.trans v2_3
      have v4_4 : F4 4 = F 4 := k4.trans v2_4
      have v4_10 : F4 10 = mR cu ca kd W sD (EL n).1 * (EL n).2 - mR cu ca kd W sD (EL n).2 * (EL n).1 := k10.trans v2_10
      have v4_11 : F4 11 = mF kd sD ((EL n).1 * (EL n).2) := by rw [k11, v2_5, v2_6]
      clear k10 k11 k3 k4
      have bdf : zbb cu ca 13 25 (mF kd sD ((EL n).1 * (EL n).2)) := mF_b HU HA hS.1 (zbb_mul HU HA x1a.2 x1b.2 (by omega) (by omega))
      refine z_aload_n X 0 rfl rfl dX4_logarithmic_40 ?_
      refine z_iconst X (n := 2) dX4_logarithmic_41 ?_
      have hn1n : (EL n).1 ≠ 0 := by
        rcases hz20 with r | r
        · omega
        · exact r.2
      refine z_callVi X zm_X4_made zw838 zp40 zw836 (zFit_of (by decide) (by decide)) [.int (iZ (2))] (q_made HU HA l O4 (mG_F G1 (F9 := F4) (v4_3.trans (rfl : F 3 = F 3).symm) (v4_4.trans (rfl : F 4 = F 4).symm)) hS hlt (by rw [v4_11]; exact mF_n HU HA hS.1 (mp_nz_mul hAd hn1n hnz1)) (by rw [v4_10]; exact zbb_le bdu (by omega) (by omega)) (by rw [v4_11]; exact zbb_le bdf (by omega) (by omega)) 2) rfl rfl (Nat.le_of_ble_eq_true rfl) (by omega) gM_O (q := vwCl[6]) rfl rfl dX4_logarithmic_42 (fun z5 S5 hz5 => ?_)
      rw [v4_10, v4_11] at hz5
      rcases hz5 with ⟨q1, p, q, q2, q3, q4⟩ | ⟨q1, q2⟩
      · exact E S5 (Or.inr (Or.inr (Or.inl ⟨hd1, hlt, hn1n, q1, p, q, q2, q3, q4⟩))) rfl dX4_logarithmic_45
      · exact E S5 (Or.inr (Or.inr (Or.inr (Or.inl ⟨hd1, hlt, hn1n, q1, q2⟩)))) rfl dX4_logarithmic_45
    · refine z_iconst X (n := -1) dX4_logarithmic_26 ?_
      have hn10 : (EL n).1 = 0 := by
        rcases hz20 with r | r
        · exact r.2
        · omega
      exact E S2 (Or.inr (Or.inr (Or.inr (Or.inr ⟨hd1, hlt, hn10, rfl, ⟨⟨F2, _, O2, (mG_F G1 (F9 := F2) (v2_3.trans (rfl : F 3 = F 3).symm) (v2_4.trans (rfl : F 4 = F 4).symm))⟩, hS⟩⟩)))) rfl dX4_logarithmic_27
  · refine z_iconst X (n := 0) dX4_logarithmic_9 ?_
    rcases hz1 with ⟨q1, q2, q3⟩ | ⟨q1, q2, q3, q4⟩ | ⟨q1, q2, q3, q4⟩
    · exact E S1 (Or.inl ⟨fun q => q1 ⟨q, q⟩, by rw [q3]; exact zGm_code hC0 1⟩) rfl dX4_logarithmic_10
    · exact E S1 (Or.inr (Or.inl ⟨q1.1, q2, by rw [q4]; exact zGm_code hC0 2⟩)) rfl dX4_logarithmic_10
    · exact absurd q3 (by omega)
set_option maxHeartbeats 8000000 in
set_option maxRecDepth 100000 in
theorem c_X4_constant {U V : Type} [Lean.Grind.CommRing U] [Lean.Grind.CommRing V] {cu : U → Nat → FP} {ca : V → Nat → U} (HU : mp_P cu) (HA : mp_P ca) (l : Launch) {D : va_G} {ad : Nat → Nat} {cI : ClassId} {EL : Int → V × V} {md kd : Int} {W sD : V} {cd : Int} {M : zM} (hC : zGm cu ca EL md kd W sD cd M) {n : Int} (hn : -2147483648 ≤ n ∧ n < 2147483648) : zMi l yX4_constant cX4_constant 2 (some .boolean) 4 D (zTyM cI) 18 ad [.ref (ad 0), .int (iZ (n))] (gM ad cI M) (gM ad cI) (fun z u => (¬ (0 ≤ n ∧ n < md) ∧ zGm cu ca EL md kd W sD 1 u) ∨ ((0 ≤ n ∧ n < md) ∧ ((z = 1 ∧ mR cu ca kd W sD (EL n).1 * (EL n).2 - mR cu ca kd W sD (EL n).2 * (EL n).1 = 0) ∨ (z = 0 ∧ mR cu ca kd W sD (EL n).1 * (EL n).2 - mR cu ca kd W sD (EL n).2 * (EL n).1 ≠ 0)) ∧ zGm cu ca EL md kd W sD 0 u)) := by
  have hC0 := hC
  obtain ⟨⟨F, T, hO, hG⟩, hS⟩ := hC
  have hmd : M.2.2.2.1 = md := (zO_rm hO).trans hG.2.2.1
  have hkd : M.2.2.2.2.1 = kd := (zO_rk hO).trans hG.2.2.2.1
  have hm : 0 ≤ md ∧ md ≤ 120 := by
    have q1 := hG.1.1
    have q2 := hG.1.2.1
    rw [hG.2.2.1] at q1 q2
    exact ⟨q1, q2⟩
  have hel : ∀ n, 0 ≤ n → n < md → mEl cu ca T.1 n (EL n).1 ∧ mEl cu ca T.2.1 n (EL n).2 := fun n h0 h1 => hG.1.2.2 n h0 (by rw [hG.2.2.1]; exact h1)
  refine z_goz zm_X4_constant (Nat.le_of_ble_eq_true rfl) [(0, .ref (ad 0)), (1, .int (iZ (n)))] rfl (fun p e s m args below meth c A Q X E => ?_)
  refine z_aload_n X 0 rfl rfl dX4_constant_0 ?_
  refine z_aload_n X 0 rfl rfl dX4_constant_1 ?_
  refine z_iload_n X 1 rfl rfl dX4_constant_2 ?_
  refine z_callVi X zm_X4_isElement zw775 zp30 zw773 (zFit_of (by decide) (by decide)) [.int (iZ (n))] (c_X4_isElement l M hn hmd hm) rfl rfl (Nat.le_of_ble_eq_true rfl) (by omega) gM_O (q := vwCl[6]) rfl rfl dX4_constant_3 (fun zE9 _ hzE => ?_)
  have hyE : zE9 = 0 ∨ zE9 = 1 := hzE.elim (fun q => Or.inr q.1) (fun q => Or.inl q.1)
  have hcE : (zE9 = 1 → (0 ≤ n ∧ n < md)) ∧ (zE9 = 0 → ¬ (0 ≤ n ∧ n < md)) := ⟨fun q => hzE.elim (fun r => r.2) (fun r => by omega), fun q => hzE.elim (fun r => by omega) (fun r => r.2)⟩
  refine z_if_eq X (tgt := 13) (by omega) dX4_constant_6 (by decide) (fun hb6 => ?_) (fun hb6 => ?_)
  · refine z_iconst X (n := 1) dX4_constant_13 ?_
    refine zn_pcode X dX4_constant_14 ?_
    obtain ⟨S1, eS1⟩ : ∃ S9, S9 = fcode M (1) := ⟨_, rfl⟩
    rw [← eS1]
    have O1 := zO_code hO (1)
    rw [← eS1] at O1
    have G1 := mG_code hG (1)
    have hcode1 : S1.2.2.1 = 1 := by rw [eS1]; rfl
    have hmd1 : S1.2.2.2.1 = md := (zO_rm O1).trans G1.2.2.1
    have hkd1 : S1.2.2.2.2.1 = kd := (zO_rk O1).trans G1.2.2.2.1
    refine z_aload_n X 0 rfl rfl dX4_constant_17 ?_
    refine z_get X zinX4 0 (by omega) gM_O (ci := 6) rfl 0 (by decide) (ref := "TowerFieldsModel") zw671 rfl rfl dX4_constant_18 ?_
    refine z_eqi (b := 1) hcode1 ?_
    refine z_if_le X (tgt := 26) (by omega) dX4_constant_21 (by decide) (fun hb21 => absurd hb21 (by omega)) (fun hb21 => ?_)
    refine z_iconst X (n := 0) dX4_constant_24 ?_
    exact E S1 (Or.inl rfl) (Or.inl ⟨hcE.2 (by omega), by rw [eS1]; exact zGm_code hC0 1⟩) rfl dX4_constant_25
  · refine z_iconst X (n := 0) dX4_constant_9 ?_
    refine z_goto X (tgt := 14) dX4_constant_10 (by decide) ?_
    refine zn_pcode X dX4_constant_14 ?_
    obtain ⟨S2, eS2⟩ : ∃ S9, S9 = fcode M (0) := ⟨_, rfl⟩
    rw [← eS2]
    have O2 := zO_code hO (0)
    rw [← eS2] at O2
    have G2 := mG_code hG (0)
    have hcode2 : S2.2.2.1 = 0 := by rw [eS2]; rfl
    have hmd2 : S2.2.2.2.1 = md := (zO_rm O2).trans G2.2.2.1
    have hkd2 : S2.2.2.2.2.1 = kd := (zO_rk O2).trans G2.2.2.2.1
    refine z_aload_n X 0 rfl rfl dX4_constant_17 ?_
    refine z_get X zinX4 0 (by omega) gM_O (ci := 6) rfl 0 (by decide) (ref := "TowerFieldsModel") zw671 rfl rfl dX4_constant_18 ?_
    refine z_eqi (b := 0) hcode2 ?_
    refine z_if_le X (tgt := 26) (by omega) dX4_constant_21 (by decide) (fun hb21 => ?_) (fun hb21 => absurd hb21 (by omega))
    have hd1 : (0 ≤ n ∧ n < md) := hcE.1 (by omega)
    obtain ⟨x1a, x1b⟩ := hel n (by omega) (by omega)
    refine z_aload_n X 0 rfl rfl dX4_constant_26 ?_
    refine z_iload_n X 1 rfl rfl dX4_constant_27 ?_
    refine z_callVv X zm_X4_deriveUp zw858 zp41 zw856 (zFit_of (by decide) (by decide)) [.int (iZ (n))] (q_deriveUp HU HA l O2 G2 hS (n := n) (by omega)) rfl rfl (Nat.le_of_ble_eq_true rfl) (by omega) gM_O (q := vwCl[6]) rfl rfl dX4_constant_28 (fun S3 O3 => ?_)
    obtain ⟨F3, O3, k10, k5, k6, k3, k4⟩ := O3
    have v3_3 : F3 3 = F 3 := k3.trans rfl
    have v3_4 : F3 4 = F 4 := k4.trans rfl
    have v3_10 : F3 10 = mR cu ca kd W sD (EL n).1 * (EL n).2 - mR cu ca kd W sD (EL n).2 * (EL n).1 := k10
    have v3_5 : F3 5 = (EL n).1 := k5
    have v3_6 : F3 6 = (EL n).2 := k6
    clear k10 k5 k6 k3 k4
    have bdu : zbb cu ca 14 25 (mR cu ca kd W sD (EL n).1 * (EL n).2 - mR cu ca kd W sD (EL n).2 * (EL n).1) := zbb_sub HU HA (zbb_mul HU HA (mR_b HU HA hS.1 x1a.2) x1b.2 (by omega) (by omega)) (zbb_mul HU HA (mR_b HU HA hS.1 x1b.2) x1a.2 (by omega) (by omega))
    refine z_aload_n X 0 rfl rfl dX4_constant_31 ?_
    refine z_get X zinX4 0 (by omega) gM_O (ci := 6) rfl 12 (by decide) (ref := "TowerFieldsModel") zw683 rfl rfl dX4_constant_32 ?_
    refine z_callSi X zm_X4_isNone zw803 zw802 (zFit_of (by decide) (by decide)) [.ref (ad (10))] (q_isNone HU HA l O3 (x := 10) (by decide)) rfl rfl (Nat.le_of_ble_eq_true rfl) dX4_constant_35 (fun z35 _ hz35 => ?_)
    rw [v3_10] at hz35
    have hy35 : z35 = 0 ∨ z35 = 1 := hz35.elim (fun q => Or.inr q.1) (fun q => Or.inl q.1)
    exact E S3 (by omega) (Or.inr ⟨hd1, hz35, ⟨⟨F3, _, O3, (mG_F G2 (F9 := F3) (v3_3.trans (rfl : F 3 = F 3).symm) (v3_4.trans (rfl : F 4 = F 4).symm))⟩, hS⟩⟩) rfl dX4_constant_38
