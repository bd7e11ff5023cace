theorem zbox_m {U V : Type} [Lean.Grind.CommRing U] [Lean.Grind.CommRing V] {cu : U → Nat → FP} {ca : V → Nat → U} (HU : mp_P cu) (HA : mp_P ca) (v : FP) {i j : Nat} (hi : i < 7) (hj : j < 7) : mk_box cu ca (mp_m ca (mp_m cu v j) i) := ⟨Nat.le_trans (mp_sz_m HA _ _) (by omega), mp_xz_le HU HA (fun r => by
    rw [mp_m_cf HA]
    split
    · exact Nat.le_trans (mp_sz_m HU _ _) (by omega)
    · exact mp_sz_le HU (fun n _ => mp_zero HU n))⟩
theorem zbox_1 {U V : Type} [Lean.Grind.CommRing U] [Lean.Grind.CommRing V] {cu : U → Nat → FP} {ca : V → Nat → U} (HU : mp_P cu) (HA : mp_P ca) : mk_box cu ca (1 : V) := zbb_le (zbb_1 HU HA) (by omega) (by omega)
set_option maxHeartbeats 8000000 in
set_option maxRecDepth 100000 in
theorem c_X4_number {U V : Type} [Lean.Grind.CommRing U] [Lean.Grind.CommRing V] {cu : U → Nat → FP} {ca : V → Nat → U} (HU : mp_P cu) (HA : mp_P ca) (l : Launch) {D : va_G} {ad : Nat → Nat} {cI : ClassId} {EL : Int → V × V} {md kd : Int} {W sD : V} {cd : Int} {M : zM} (hC : zGm cu ca EL md kd W sD cd M) {a b : Int} (ha1 : -9223372036854775808 ≤ a) (ha2 : a < 9223372036854775808) (hb1 : -9223372036854775808 ≤ b) (hb2 : b < 9223372036854775808) : zMi l yX4_number cX4_number 5 (some .int) 2 D (zTyM cI) 18 ad [.ref (ad 0), .long (lZ a), .long (lZ b)] (gM ad cI M) (gM ad cI) (fun z u => (¬ md < 120 ∧ zGm cu ca EL md kd W sD 1 u) ∨ (md < 120 ∧ mI b = 0 ∧ zGm cu ca EL md kd W sD 2 u) ∨ (md < 120 ∧ mI b ≠ 0 ∧ z = md ∧ zGm cu ca (zUp EL md (mp_m ca (mp_m cu (mI a * mf_inv (mI b)) 0) 0, 1)) (md + 1) kd W sD 0 u)) := by
  have hC0 := hC
  obtain ⟨⟨F, T, hO, hG⟩, hS⟩ := hC
  have hmd : M.2.2.2.1 = md := (zO_rm hO).trans hG.2.2.1
  have hkd : M.2.2.2.2.1 = kd := (zO_rk hO).trans hG.2.2.2.1
  have hm : 0 ≤ md ∧ md ≤ 120 := by
    have q1 := hG.1.1
    have q2 := hG.1.2.1
    rw [hG.2.2.1] at q1 q2
    exact ⟨q1, q2⟩
  have hel : ∀ n, 0 ≤ n → n < md → mEl cu ca T.1 n (EL n).1 ∧ mEl cu ca T.2.1 n (EL n).2 := fun n h0 h1 => hG.1.2.2 n h0 (by rw [hG.2.2.1]; exact h1)
  refine z_goi zm_X4_number (Nat.le_of_ble_eq_true rfl) [(0, .ref (ad 0)), (1, .long (lZ (a))), (3, .long (lZ (b)))] rfl (fun p e s m args below meth c A Q X E => ?_)
  refine z_aload_n X 0 rfl rfl dX4_number_0 ?_
  refine z_aload_n X 0 rfl rfl dX4_number_1 ?_
  refine z_get X zinX4 0 (by omega) gM_O (ci := 6) rfl 1 (by decide) (ref := "TowerFieldsModel") zw672 rfl rfl dX4_number_2 ?_
  refine z_eqi (b := md) hmd ?_
  refine z_bipush X (n := 120) (by decide) dX4_number_5 ?_
  refine z_icmp_ne X (tgt := 14) (by omega) (by omega) dX4_number_7 (by decide) (fun hb7 => ?_) (fun hb7 => ?_)
  · refine z_lload_n X 2 rfl rfl dX4_number_14 ?_
    refine z_callSi X zm_X4_modulo zw744 zw743 (zFit_of (by decide) (by decide)) [.long (lZ (b))] (c_X4_modulo l (gM ad cI M) (a := b) hb1 hb2) rfl rfl (Nat.le_of_ble_eq_true rfl) dX4_number_15 (fun z _ hz => ?_)
    subst hz
    have hbz := @vz_z (mI b)
    have hbn := vz_nn (mI b)
    have hbl := vz_lt (mI b)
    refine z_if_ne X (tgt := 25) (by omega) dX4_number_18 (by decide) (fun hb18 => ?_) (fun hb18 => ?_)
    · refine z_iconst X (n := 0) dX4_number_25 ?_
      refine zn_pcode X dX4_number_26 ?_
      obtain ⟨S1, eS1⟩ : ∃ S9, S9 = fcode M (0) := ⟨_, rfl⟩
      rw [← eS1]
      have O1 := zO_code hO (0)
      rw [← eS1] at O1
      have G1 := mG_code hG (0)
      have hcode1 : S1.2.2.1 = 0 := by rw [eS1]; rfl
      have hmd1 : S1.2.2.2.1 = md := (zO_rm O1).trans G1.2.2.1
      have hkd1 : S1.2.2.2.2.1 = kd := (zO_rk O1).trans G1.2.2.2.1
      refine z_aload_n X 0 rfl rfl dX4_number_29 ?_
      refine z_get X zinX4 0 (by omega) gM_O (ci := 6) rfl 0 (by decide) (ref := "TowerFieldsModel") zw671 rfl rfl dX4_number_30 ?_
      refine z_eqi (b := 0) hcode1 ?_
      refine z_if_le X (tgt := 38) (by omega) dX4_number_33 (by decide) (fun hb33 => ?_) (fun hb33 => absurd hb33 (by omega))
      have hlt : md < 120 := by omega
      refine z_aload_n X 0 rfl rfl dX4_number_38 ?_
      refine z_get X zinX4 0 (by omega) gM_O (ci := 6) rfl 12 (by decide) (ref := "TowerFieldsModel") zw683 rfl rfl dX4_number_39 ?_
      refine z_callSv X zm_X4_clear zw748 zw747 (zFit_of (by decide) (by decide)) [.ref (ad (10))] (q_clear HU HA l O1 (x := 10) (by decide)) rfl rfl (Nat.le_of_ble_eq_true rfl) dX4_number_42 (fun S2 O2 => ?_)
      obtain ⟨F2, eF2⟩ : ∃ F9, F9 = va_up F 10 (0) := ⟨_, rfl⟩
      rw [← eF2] at O2
      have v2_10 : F2 10 = 0 := by rw [eF2, va_up_self]
      have v2_3 : F2 3 = F 3 := (congrFun eF2 3).trans ((va_up_ne _ _ (by omega)).trans (rfl : F 3 = _))
      have v2_4 : F2 4 = F 4 := (congrFun eF2 4).trans ((va_up_ne _ _ (by omega)).trans (rfl : F 4 = _))
      clear eF2
      refine z_aload_n X 0 rfl rfl dX4_number_45 ?_
      refine z_aload_n X 0 rfl rfl dX4_number_46 ?_
      refine z_get X zinX4 0 (by omega) gM_O (ci := 6) rfl 13 (by decide) (ref := "TowerFieldsModel") zw684 rfl rfl dX4_number_47 ?_
      refine z_callVv X zm_X4_one zw752 zp27 zw750 (zFit_of (by decide) (by decide)) [.ref (ad (11))] (q_one HU HA l O2 (x := 11) (by decide)) rfl rfl (Nat.le_of_ble_eq_true rfl) (by omega) gM_O (q := vwCl[6]) rfl rfl dX4_number_50 (fun S3 O3 => ?_)
      obtain ⟨F3, eF3⟩ : ∃ F9, F9 = va_up F2 11 (1) := ⟨_, rfl⟩
      rw [← eF3] at O3
      have v3_11 : F3 11 = 1 := by rw [eF3, va_up_self]
      have v3_3 : F3 3 = F 3 := (congrFun eF3 3).trans ((va_up_ne _ _ (by omega)).trans v2_3)
      have v3_4 : F3 4 = F 4 := (congrFun eF3 4).trans ((va_up_ne _ _ (by omega)).trans v2_4)
      have v3_10 : F3 10 = 0 := (congrFun eF3 10).trans ((va_up_ne _ _ (by omega)).trans v2_10)
      clear eF3
      refine z_aload_n X 0 rfl rfl dX4_number_53 ?_
      refine z_get X zinX4 0 (by omega) gM_O (ci := 6) rfl 12 (by decide) (ref := "TowerFieldsModel") zw683 rfl rfl dX4_number_54 ?_
      refine z_iconst X (n := 0) dX4_number_57 ?_
      refine z_lload_n X 1 rfl rfl dX4_number_58 ?_
      refine z_callSi X zm_X4_modulo zw744 zw743 (zFit_of (by decide) (by decide)) [.long (lZ (a))] (c_X4_modulo l (gM ad cI S3) (a := a) ha1 ha2) rfl rfl (Nat.le_of_ble_eq_true rfl) dX4_number_59 (fun z _ hz => ?_)
      subst hz
      refine z_i2l X (vz_lo _) (vz_hi _) dX4_number_62 ?_
      refine z_lload_n X 2 rfl rfl dX4_number_63 ?_
      refine z_callSi X zm_X4_modulo zw744 zw743 (zFit_of (by decide) (by decide)) [.long (lZ (b))] (c_X4_modulo l (gM ad cI S3) (a := b) hb1 hb2) rfl rfl (Nat.le_of_ble_eq_true rfl) dX4_number_64 (fun z _ hz => ?_)
      subst hz
      refine z_callSi X zm_X4_inverse zw755 zw754 (zFit_of (by decide) (by decide)) [.int (iZ (vz (mI b)))] (c_X4_inverse l (gM ad cI S3) (mI b)) rfl rfl (Nat.le_of_ble_eq_true rfl) dX4_number_67 (fun z _ hz => ?_)
      subst hz
      refine z_i2l X (vz_lo _) (vz_hi _) dX4_number_70 ?_
      refine z_lmul X dX4_number_71 ?_
      refine z_ldc2Z X zw746 dX4_number_72 ?_
      refine z_lrem X vz_mul_nn (by have := @vz_mul_lt; exact Int.lt_of_le_of_lt vz_mul_lt (by omega)) dX4_number_75 ?_
      refine z_l2i X dX4_number_76 ?_
      refine z_eqi (b := vz (mI a * mf_inv (mI b))) (vz_m _ _) ?_
      refine zn_st X (by decide) 880 rfl (by omega) (by omega) (mI a * mf_inv (mI b)) rfl (fa S3 10 (va_up (S3.1 10) (0 : Int).toNat (mI a * mf_inv (mI b)))) rfl dX4_number_77 ?_
      obtain ⟨S4, eS4⟩ : ∃ S9, S9 = fa S3 10 (va_up (S3.1 10) (0 : Int).toNat (mI a * mf_inv (mI b))) := ⟨_, rfl⟩
      rw [← eS4]
      have O4 := zO_put HU HA O3 (x := 10) (by decide) v3_10 (i := 0) (j := 0) (by omega) (by omega) (mI a * mf_inv (mI b))
      rw [show fa S3 10 (va_up (S3.1 10) (40 * 0 + 0) (mI a * mf_inv (mI b))) = S4 from eS4.symm] at O4
      obtain ⟨F4, eF4⟩ : ∃ F9, F9 = va_up F3 10 (mp_m ca (mp_m cu (mI a * mf_inv (mI b)) 0) 0) := ⟨_, rfl⟩
      rw [← eF4] at O4
      have v4_10 : F4 10 = mp_m ca (mp_m cu (mI a * mf_inv (mI b)) 0) 0 := by rw [eF4, va_up_self]
      have v4_3 : F4 3 = F 3 := (congrFun eF4 3).trans ((va_up_ne _ _ (by omega)).trans v3_3)
      have v4_4 : F4 4 = F 4 := (congrFun eF4 4).trans ((va_up_ne _ _ (by omega)).trans v3_4)
      have v4_11 : F4 11 = 1 := (congrFun eF4 11).trans ((va_up_ne _ _ (by omega)).trans v3_11)
      clear eF4
      refine z_aload_n X 0 rfl rfl dX4_number_78 ?_
      refine z_callVi X zm_X4_keep zw759 zp28 zw757 (zFit_of (by decide) (by decide)) [] (q_keep HU HA l O4 (mG_F G1 (F9 := F4) (v4_3.trans (rfl : F 3 = F 3).symm) (v4_4.trans (rfl : F 4 = F 4).symm)) hS hlt (p := mp_m ca (mp_m cu (mI a * mf_inv (mI b)) 0) 0) (q := 1) v4_10 v4_11 (zbox_m HU HA _ (by omega) (by omega)) (zbox_1 HU HA)) rfl rfl (Nat.le_of_ble_eq_true rfl) (by omega) gM_O (q := vwCl[6]) rfl rfl dX4_number_79 (fun z5 S5 hz5 => ?_)
      exact E S5 (Or.inr (Or.inr ⟨hlt, fun q => by have := hbz.mpr q; omega, hz5.1, hz5.2⟩)) rfl dX4_number_82
    · refine z_iconst X (n := 2) dX4_number_21 ?_
      refine z_goto X (tgt := 26) dX4_number_22 (by decide) ?_
      refine zn_pcode X dX4_number_26 ?_
      obtain ⟨S6, eS6⟩ : ∃ S9, S9 = fcode M (2) := ⟨_, rfl⟩
      rw [← eS6]
      have O6 := zO_code hO (2)
      rw [← eS6] at O6
      have G6 := mG_code hG (2)
      have hcode6 : S6.2.2.1 = 2 := by rw [eS6]; rfl
      have hmd6 : S6.2.2.2.1 = md := (zO_rm O6).trans G6.2.2.1
      have hkd6 : S6.2.2.2.2.1 = kd := (zO_rk O6).trans G6.2.2.2.1
      refine z_aload_n X 0 rfl rfl dX4_number_29 ?_
      refine z_get X zinX4 0 (by omega) gM_O (ci := 6) rfl 0 (by decide) (ref := "TowerFieldsModel") zw671 rfl rfl dX4_number_30 ?_
      refine z_eqi (b := 2) hcode6 ?_
      refine z_if_le X (tgt := 38) (by omega) dX4_number_33 (by decide) (fun hb33 => absurd hb33 (by omega)) (fun hb33 => ?_)
      refine z_iconst X (n := 0) dX4_number_36 ?_
      exact E S6 (Or.inr (Or.inl ⟨by omega, hbz.mp (by omega), by rw [eS6]; exact zGm_code hC0 2⟩)) rfl dX4_number_37
  · refine z_iconst X (n := 1) dX4_number_10 ?_
    refine z_goto X (tgt := 26) dX4_number_11 (by decide) ?_
    refine zn_pcode X dX4_number_26 ?_
    obtain ⟨S7, eS7⟩ : ∃ S9, S9 = fcode M (1) := ⟨_, rfl⟩
    rw [← eS7]
    have O7 := zO_code hO (1)
    rw [← eS7] at O7
    have G7 := mG_code hG (1)
    have hcode7 : S7.2.2.1 = 1 := by rw [eS7]; rfl
    have hmd7 : S7.2.2.2.1 = md := (zO_rm O7).trans G7.2.2.1
    have hkd7 : S7.2.2.2.2.1 = kd := (zO_rk O7).trans G7.2.2.2.1
    refine z_aload_n X 0 rfl rfl dX4_number_29 ?_
    refine z_get X zinX4 0 (by omega) gM_O (ci := 6) rfl 0 (by decide) (ref := "TowerFieldsModel") zw671 rfl rfl dX4_number_30 ?_
    refine z_eqi (b := 1) hcode7 ?_
    refine z_if_le X (tgt := 38) (by omega) dX4_number_33 (by decide) (fun hb33 => absurd hb33 (by omega)) (fun hb33 => ?_)
    refine z_iconst X (n := 0) dX4_number_36 ?_
    exact E S7 (Or.inl ⟨by omega, by rw [eS7]; exact zGm_code hC0 1⟩) rfl dX4_number_37
set_option maxHeartbeats 8000000 in
set_option maxRecDepth 100000 in
theorem c_X4_base {U V : Type} [Lean.Grind.CommRing U] [Lean.Grind.CommRing V] {cu : U → Nat → FP} {ca : V → Nat → U} (HU : mp_P cu) (HA : mp_P ca) (l : Launch) {D : va_G} {ad : Nat → Nat} {cI : ClassId} {EL : Int → V × V} {md kd : Int} {W sD : V} {cd : Int} {M : zM} (hC : zGm cu ca EL md kd W sD cd M) : zMi l yX4_base cX4_base 1 (some .int) 2 D (zTyM cI) 18 ad [.ref (ad 0)] (gM ad cI M) (gM ad cI) (fun z u => (¬ md < 120 ∧ zGm cu ca EL md kd W sD 1 u) ∨ (md < 120 ∧ z = md ∧ zGm cu ca (zUp EL md (mp_m ca (mp_m cu 1 1) 0, 1)) (md + 1) kd W sD 0 u)) := by
  have hC0 := hC
  obtain ⟨⟨F, T, hO, hG⟩, hS⟩ := hC
  have hmd : M.2.2.2.1 = md := (zO_rm hO).trans hG.2.2.1
  have hkd : M.2.2.2.2.1 = kd := (zO_rk hO).trans hG.2.2.2.1
  have hm : 0 ≤ md ∧ md ≤ 120 := by
    have q1 := hG.1.1
    have q2 := hG.1.2.1
    rw [hG.2.2.1] at q1 q2
    exact ⟨q1, q2⟩
  have hel : ∀ n, 0 ≤ n → n < md → mEl cu ca T.1 n (EL n).1 ∧ mEl cu ca T.2.1 n (EL n).2 := fun n h0 h1 => hG.1.2.2 n h0 (by rw [hG.2.2.1]; exact h1)
  refine z_goi zm_X4_base (Nat.le_of_ble_eq_true rfl) [(0, .ref (ad 0))] rfl (fun p e s m args below meth c A Q X E => ?_)
  refine z_aload_n X 0 rfl rfl dX4_base_0 ?_
  refine z_aload_n X 0 rfl rfl dX4_base_1 ?_
  refine z_get X zinX4 0 (by omega) gM_O (ci := 6) rfl 1 (by decide) (ref := "TowerFieldsModel") zw672 rfl rfl dX4_base_2 ?_
  refine z_eqi (b := md) hmd ?_
  refine z_bipush X (n := 120) (by decide) dX4_base_5 ?_
  refine z_icmp_ne X (tgt := 14) (by omega) (by omega) dX4_base_7 (by decide) (fun hb7 => ?_) (fun hb7 => ?_)
  · refine z_iconst X (n := 0) dX4_base_14 ?_
    refine zn_pcode X dX4_base_15 ?_
    obtain ⟨S1, eS1⟩ : ∃ S9, S9 = fcode M (0) := ⟨_, rfl⟩
    rw [← eS1]
    have O1 := zO_code hO (0)
    rw [← eS1] at O1
    have G1 := mG_code hG (0)
    have hcode1 : S1.2.2.1 = 0 := by rw [eS1]; rfl
    have hmd1 : S1.2.2.2.1 = md := (zO_rm O1).trans G1.2.2.1
    have hkd1 : S1.2.2.2.2.1 = kd := (zO_rk O1).trans G1.2.2.2.1
    refine z_aload_n X 0 rfl rfl dX4_base_18 ?_
    refine z_get X zinX4 0 (by omega) gM_O (ci := 6) rfl 0 (by decide) (ref := "TowerFieldsModel") zw671 rfl rfl dX4_base_19 ?_
    refine z_eqi (b := 0) hcode1 ?_
    refine z_if_le X (tgt := 27) (by omega) dX4_base_22 (by decide) (fun hb22 => ?_) (fun hb22 => absurd hb22 (by omega))
    have hlt : md < 120 := by omega
    refine z_aload_n X 0 rfl rfl dX4_base_27 ?_
    refine z_get X zinX4 0 (by omega) gM_O (ci := 6) rfl 12 (by decide) (ref := "TowerFieldsModel") zw683 rfl rfl dX4_base_28 ?_
    refine z_callSv X zm_X4_clear zw748 zw747 (zFit_of (by decide) (by decide)) [.ref (ad (10))] (q_clear HU HA l O1 (x := 10) (by decide)) rfl rfl (Nat.le_of_ble_eq_true rfl) dX4_base_31 (fun S2 O2 => ?_)
    obtain ⟨F2, eF2⟩ : ∃ F9, F9 = va_up F 10 (0) := ⟨_, rfl⟩
    rw [← eF2] at O2
    have v2_10 : F2 10 = 0 := by rw [eF2, va_up_self]
    have v2_3 : F2 3 = F 3 := (congrFun eF2 3).trans ((va_up_ne _ _ (by omega)).trans (rfl : F 3 = _))
    have v2_4 : F2 4 = F 4 := (congrFun eF2 4).trans ((va_up_ne _ _ (by omega)).trans (rfl : F 4 = _))
    clear eF2
    refine z_aload_n X 0 rfl rfl dX4_base_34 ?_
    refine z_aload_n X 0 rfl rfl dX4_base_35 ?_
    refine z_get X zinX4 0 (by omega) gM_O (ci := 6) rfl 13 (by decide) (ref := "TowerFieldsModel") zw684 rfl rfl dX4_base_36 ?_
    refine z_callVv X zm_X4_one zw752 zp27 zw750 (zFit_of (by decide) (by decide)) [.ref (ad (11))] (q_one HU HA l O2 (x := 11) (by decide)) rfl rfl (Nat.le_of_ble_eq_true rfl) (by omega) gM_O (q := vwCl[6]) rfl rfl dX4_base_39 (fun S3 O3 => ?_)
    obtain ⟨F3, eF3⟩ : ∃ F9, F9 = va_up F2 11 (1) := ⟨_, rfl⟩
    rw [← eF3] at O3
    have v3_11 : F3 11 = 1 := by rw [eF3, va_up_self]
    have v3_3 : F3 3 = F 3 := (congrFun eF3 3).trans ((va_up_ne _ _ (by omega)).trans v2_3)
    have v3_4 : F3 4 = F 4 := (congrFun eF3 4).trans ((va_up_ne _ _ (by omega)).trans v2_4)
    have v3_10 : F3 10 = 0 := (congrFun eF3 10).trans ((va_up_ne _ _ (by omega)).trans v2_10)
    clear eF3
    refine z_aload_n X 0 rfl rfl dX4_base_42 ?_
    refine z_get X zinX4 0 (by omega) gM_O (ci := 6) rfl 12 (by decide) (ref := "TowerFieldsModel") zw683 rfl rfl dX4_base_43 ?_
    refine z_iconst X (n := 1) dX4_base_46 ?_
    refine z_iconst X (n := 1) dX4_base_47 ?_
    refine zn_st X (by decide) 880 rfl (by omega) (by omega) (1) rfl (fa S3 10 (va_up (S3.1 10) (1 : Int).toNat (1))) rfl dX4_base_48 ?_
    obtain ⟨S4, eS4⟩ : ∃ S9, S9 = fa S3 10 (va_up (S3.1 10) (1 : Int).toNat (1)) := ⟨_, rfl⟩
    rw [← eS4]
    have O4 := zO_put HU HA O3 (x := 10) (by decide) v3_10 (i := 0) (j := 1) (by omega) (by omega) (1)
    rw [show fa S3 10 (va_up (S3.1 10) (40 * 0 + 1) (1)) = S4 from eS4.symm] at O4
    obtain ⟨F4, eF4⟩ : ∃ F9, F9 = va_up F3 10 (mp_m ca (mp_m cu (1) 1) 0) := ⟨_, rfl⟩
    rw [← eF4] at O4
    have v4_10 : F4 10 = mp_m ca (mp_m cu (1) 1) 0 := by rw [eF4, va_up_self]
    have v4_3 : F4 3 = F 3 := (congrFun eF4 3).trans ((va_up_ne _ _ (by omega)).trans v3_3)
    have v4_4 : F4 4 = F 4 := (congrFun eF4 4).trans ((va_up_ne _ _ (by omega)).trans v3_4)
    have v4_11 : F4 11 = 1 := (congrFun eF4 11).trans ((va_up_ne _ _ (by omega)).trans v3_11)
    clear eF4
    refine z_aload_n X 0 rfl rfl dX4_base_49 ?_
    refine z_callVi X zm_X4_keep zw759 zp28 zw757 (zFit_of (by decide) (by decide)) [] (q_keep HU HA l O4 (mG_F G1 (F9 := F4) (v4_3.trans (rfl : F 3 = F 3).symm) (v4_4.trans (rfl : F 4 = F 4).symm)) hS hlt (p := mp_m ca (mp_m cu 1 1) 0) (q := 1) v4_10 v4_11 (zbox_m HU HA _ (by omega) (by omega)) (zbox_1 HU HA)) rfl rfl (Nat.le_of_ble_eq_true rfl) (by omega) gM_O (q := vwCl[6]) rfl rfl dX4_base_50 (fun z5 S5 hz5 => ?_)
    exact E S5 (Or.inr ⟨hlt, hz5.1, hz5.2⟩) rfl dX4_base_53
  · refine z_iconst X (n := 1) dX4_base_10 ?_
    refine z_goto X (tgt := 15) dX4_base_11 (by decide) ?_
    refine zn_pcode X dX4_base_15 ?_
    obtain ⟨S6, eS6⟩ : ∃ S9, S9 = fcode M (1) := ⟨_, rfl⟩
    rw [← eS6]
    have O6 := zO_code hO (1)
    rw [← eS6] at O6
    have G6 := mG_code hG (1)
    have hcode6 : S6.2.2.1 = 1 := by rw [eS6]; rfl
    have hmd6 : S6.2.2.2.1 = md := (zO_rm O6).trans G6.2.2.1
    have hkd6 : S6.2.2.2.2.1 = kd := (zO_rk O6).trans G6.2.2.2.1
    refine z_aload_n X 0 rfl rfl dX4_base_18 ?_
    refine z_get X zinX4 0 (by omega) gM_O (ci := 6) rfl 0 (by decide) (ref := "TowerFieldsModel") zw671 rfl rfl dX4_base_19 ?_
    refine z_eqi (b := 1) hcode6 ?_
    refine z_if_le X (tgt := 27) (by omega) dX4_base_22 (by decide) (fun hb22 => absurd hb22 (by omega)) (fun hb22 => ?_)
    refine z_iconst X (n := 0) dX4_base_25 ?_
    exact E S6 (Or.inl ⟨by omega, by rw [eS6]; exact zGm_code hC0 1⟩) rfl dX4_base_26
set_option maxHeartbeats 8000000 in
set_option maxRecDepth 100000 in
theorem q_letterItself {U V : Type} [Lean.Grind.CommRing U] [Lean.Grind.CommRing V] {cu : U → Nat → FP} {ca : V → Nat → U} (HU : mp_P cu) (HA : mp_P ca) (l : Launch) {D : va_G} {ad : Nat → Nat} {cI : ClassId} {F : Nat → V} {T : zTM} {M : zM} (hO : zO cu ca F T M) {EL : Int → V × V} {md kd : Int} {W sD : V} {cd : Int} (hG : mG cu ca EL md kd W sD cd F T) (hS : mSl cu ca kd W sD ∧ (0 ≤ kd ∧ kd ≤ 2)) (hlt : md < 120) : zMi l yX4_letterItself cX4_letterItself 1 (some .int) 2 D (zTyM cI) 18 ad [.ref (ad 0)] (gM ad cI M) (gM ad cI) (fun z u => z = md ∧ zGm cu ca (zUp EL md (mp_m ca (mp_m cu 1 0) 1, 1)) (md + 1) kd W sD cd u) := by
  refine z_goi zm_X4_letterItself (Nat.le_of_ble_eq_true rfl) [(0, .ref (ad 0))] rfl (fun p e s m args below meth c A Q X E => ?_)
  refine z_aload_n X 0 rfl rfl dX4_letterItself_0 ?_
  refine z_get X zinX4 0 (by omega) gM_O (ci := 6) rfl 12 (by decide) (ref := "TowerFieldsModel") zw683 rfl rfl dX4_letterItself_1 ?_
  refine z_callSv X zm_X4_clear zw748 zw747 (zFit_of (by decide) (by decide)) [.ref (ad (10))] (q_clear HU HA l hO (x := 10) (by decide)) rfl rfl (Nat.le_of_ble_eq_true rfl) dX4_letterItself_4 (fun S1 O1 => ?_)
  obtain ⟨F1, eF1⟩ : ∃ F9, F9 = va_up F 10 (0) := ⟨_, rfl⟩
  rw [← eF1] at O1
  have v1_10 : F1 10 = 0 := by rw [eF1, va_up_self]
  have v1_3 : F1 3 = F 3 := (congrFun eF1 3).trans ((va_up_ne _ _ (by omega)).trans (rfl : F 3 = _))
  have v1_4 : F1 4 = F 4 := (congrFun eF1 4).trans ((va_up_ne _ _ (by omega)).trans (rfl : F 4 = _))
  clear eF1
  refine z_aload_n X 0 rfl rfl dX4_letterItself_7 ?_
  refine z_aload_n X 0 rfl rfl dX4_letterItself_8 ?_
  refine z_get X zinX4 0 (by omega) gM_O (ci := 6) rfl 13 (by decide) (ref := "TowerFieldsModel") zw684 rfl rfl dX4_letterItself_9 ?_
  refine z_callVv X zm_X4_one zw752 zp27 zw750 (zFit_of (by decide) (by decide)) [.ref (ad (11))] (q_one HU HA l O1 (x := 11) (by decide)) rfl rfl (Nat.le_of_ble_eq_true rfl) (by omega) gM_O (q := vwCl[6]) rfl rfl dX4_letterItself_12 (fun S2 O2 => ?_)
  obtain ⟨F2, eF2⟩ : ∃ F9, F9 = va_up F1 11 (1) := ⟨_, rfl⟩
  rw [← eF2] at O2
  have v2_11 : F2 11 = 1 := by rw [eF2, va_up_self]
  have v2_3 : F2 3 = F 3 := (congrFun eF2 3).trans ((va_up_ne _ _ (by omega)).trans v1_3)
  have v2_4 : F2 4 = F 4 := (congrFun eF2 4).trans ((va_up_ne _ _ (by omega)).trans v1_4)
  have v2_10 : F2 10 = 0 := (congrFun eF2 10).trans ((va_up_ne _ _ (by omega)).trans v1_10)
  clear eF2
  refine z_aload_n X 0 rfl rfl dX4_letterItself_15 ?_
  refine z_get X zinX4 0 (by omega) gM_O (ci := 6) rfl 12 (by decide) (ref := "TowerFieldsModel") zw683 rfl rfl dX4_letterItself_16 ?_
  refine z_bipush X (n := 40) (by decide) dX4_letterItself_19 ?_
  refine z_iconst X (n := 1) dX4_letterItself_21 ?_
  refine zn_st X (by decide) 880 rfl (by omega) (by omega) (1) rfl (fa S2 10 (va_up (S2.1 10) (40 : Int).toNat (1))) rfl dX4_letterItself_22 ?_
  obtain ⟨S3, eS3⟩ : ∃ S9, S9 = fa S2 10 (va_up (S2.1 10) (40 : Int).toNat (1)) := ⟨_, rfl⟩
  rw [← eS3]
  have O3 := zO_put HU HA O2 (x := 10) (by decide) v2_10 (i := 1) (j := 0) (by omega) (by omega) (1)
  rw [show fa S2 10 (va_up (S2.1 10) (40 * 1 + 0) (1)) = S3 from eS3.symm] at O3
  obtain ⟨F3, eF3⟩ : ∃ F9, F9 = va_up F2 10 (mp_m ca (mp_m cu (1) 0) 1) := ⟨_, rfl⟩
  rw [← eF3] at O3
  have v3_10 : F3 10 = mp_m ca (mp_m cu (1) 0) 1 := by rw [eF3, va_up_self]
  have v3_3 : F3 3 = F 3 := (congrFun eF3 3).trans ((va_up_ne _ _ (by omega)).trans v2_3)
  have v3_4 : F3 4 = F 4 := (congrFun eF3 4).trans ((va_up_ne _ _ (by omega)).trans v2_4)
  have v3_11 : F3 11 = 1 := (congrFun eF3 11).trans ((va_up_ne _ _ (by omega)).trans v2_11)
  clear eF3
  refine z_aload_n X 0 rfl rfl dX4_letterItself_23 ?_
  refine z_callVi X zm_X4_keep zw759 zp28 zw757 (zFit_of (by decide) (by decide)) [] (q_keep HU HA l O3 (mG_F hG (F9 := F3) (v3_3.trans (rfl : F 3 = F 3).symm) (v3_4.trans (rfl : F 4 = F 4).symm)) hS hlt (p := mp_m ca (mp_m cu 1 0) 1) (q := 1) v3_10 v3_11 (zbox_m HU HA _ (by omega) (by omega)) (zbox_1 HU HA)) rfl rfl (Nat.le_of_ble_eq_true rfl) (by omega) gM_O (q := vwCl[6]) rfl rfl dX4_letterItself_24 (fun z4 S4 hz4 => ?_)
  exact E S4 hz4 rfl dX4_letterItself_27
set_option maxHeartbeats 8000000 in
set_option maxRecDepth 100000 in
theorem c_X4_top {U V : Type} [Lean.Grind.CommRing U] [Lean.Grind.CommRing V] {cu : U → Nat → FP} {ca : V → Nat → U} (HU : mp_P cu) (HA : mp_P ca) (l : Launch) {D : va_G} {ad : Nat → Nat} {cI : ClassId} {EL : Int → V × V} {md kd : Int} {W sD : V} {cd : Int} {M : zM} (hC : zGm cu ca EL md kd W sD cd M) : zMi l yX4_top cX4_top 1 (some .int) 3 D (zTyM cI) 18 ad [.ref (ad 0)] (gM ad cI M) (gM ad cI) (fun z u => (¬ md < 120 ∧ zGm cu ca EL md kd W sD 1 u) ∨ (md < 120 ∧ kd = 0 ∧ zGm cu ca EL md kd W sD 2 u) ∨ (md < 120 ∧ kd ≠ 0 ∧ z = md ∧ zGm cu ca (zUp EL md (mp_m ca (mp_m cu 1 0) 1, 1)) (md + 1) kd W sD 0 u)) := by
  have hC0 := hC
  obtain ⟨⟨F, T, hO, hG⟩, hS⟩ := hC
  have hmd : M.2.2.2.1 = md := (zO_rm hO).trans hG.2.2.1
  have hkd : M.2.2.2.2.1 = kd := (zO_rk hO).trans hG.2.2.2.1
  have hm : 0 ≤ md ∧ md ≤ 120 := by
    have q1 := hG.1.1
    have q2 := hG.1.2.1
    rw [hG.2.2.1] at q1 q2
    exact ⟨q1, q2⟩
  have hel : ∀ n, 0 ≤ n → n < md → mEl cu ca T.1 n (EL n).1 ∧ mEl cu ca T.2.1 n (EL n).2 := fun n h0 h1 => hG.1.2.2 n h0 (by rw [hG.2.2.1]; exact h1)
  refine z_goi zm_X4_top (Nat.le_of_ble_eq_true rfl) [(0, .ref (ad 0))] rfl (fun p e s m args below meth c A Q X E => ?_)
  refine z_aload_n X 0 rfl rfl dX4_top_0 ?_
  refine z_aload_n X 0 rfl rfl dX4_top_1 ?_
  refine z_get X zinX4 0 (by omega) gM_O (ci := 6) rfl 1 (by decide) (ref := "TowerFieldsModel") zw672 rfl rfl dX4_top_2 ?_
  refine z_eqi (b := md) hmd ?_
  refine z_bipush X (n := 120) (by decide) dX4_top_5 ?_
  refine z_icmp_ne X (tgt := 14) (by omega) (by omega) dX4_top_7 (by decide) (fun hb7 => ?_) (fun hb7 => ?_)
  · have hkb := hS.2
    refine z_aload_n X 0 rfl rfl dX4_top_14 ?_
    refine z_get X zinX4 0 (by omega) gM_O (ci := 6) rfl 4 (by decide) (ref := "TowerFieldsModel") zw675 rfl rfl dX4_top_15 ?_
    refine z_eqi (b := kd) hkd ?_
    refine z_if_ne X (tgt := 25) (by omega) dX4_top_18 (by decide) (fun hb18 => ?_) (fun hb18 => ?_)
    · refine z_iconst X (n := 0) dX4_top_25 ?_
      refine zn_pcode X dX4_top_26 ?_
      obtain ⟨S1, eS1⟩ : ∃ S9, S9 = fcode M (0) := ⟨_, rfl⟩
      rw [← eS1]
      have O1 := zO_code hO (0)
      rw [← eS1] at O1
      have G1 := mG_code hG (0)
      have hcode1 : S1.2.2.1 = 0 := by rw [eS1]; rfl
      have hmd1 : S1.2.2.2.1 = md := (zO_rm O1).trans G1.2.2.1
      have hkd1 : S1.2.2.2.2.1 = kd := (zO_rk O1).trans G1.2.2.2.1
      refine z_aload_n X 0 rfl rfl dX4_top_29 ?_
      refine z_get X zinX4 0 (by omega) gM_O (ci := 6) rfl 0 (by decide) (ref := "TowerFieldsModel") zw671 rfl rfl dX4_top_30 ?_
      refine z_eqi (b := 0) hcode1 ?_
      refine z_if_le X (tgt := 40) (by omega) dX4_top_33 (by decide) (fun hb33 => ?_) (fun hb33 => absurd hb33 (by omega))
      refine z_aload_n X 0 rfl rfl dX4_top_40 ?_
      refine z_callVi X zm_X4_letterItself zw822 zp38 zw820 (zFit_of (by decide) (by decide)) [] (q_letterItself HU HA l O1 G1 hS (by omega)) rfl rfl (Nat.le_of_ble_eq_true rfl) (by omega) gM_O (q := vwCl[6]) rfl rfl dX4_top_41 (fun z2 S2 hz2 => ?_)
      exact E S2 (Or.inr (Or.inr ⟨by omega, by omega, hz2.1, hz2.2⟩)) rfl dX4_top_44
    · refine z_iconst X (n := 2) dX4_top_21 ?_
      refine z_goto X (tgt := 26) dX4_top_22 (by decide) ?_
      refine zn_pcode X dX4_top_26 ?_
      obtain ⟨S3, eS3⟩ : ∃ S9, S9 = fcode M (2) := ⟨_, rfl⟩
      rw [← eS3]
      have O3 := zO_code hO (2)
      rw [← eS3] at O3
      have G3 := mG_code hG (2)
      have hcode3 : S3.2.2.1 = 2 := by rw [eS3]; rfl
      have hmd3 : S3.2.2.2.1 = md := (zO_rm O3).trans G3.2.2.1
      have hkd3 : S3.2.2.2.2.1 = kd := (zO_rk O3).trans G3.2.2.2.1
      refine z_aload_n X 0 rfl rfl dX4_top_29 ?_
      refine z_get X zinX4 0 (by omega) gM_O (ci := 6) rfl 0 (by decide) (ref := "TowerFieldsModel") zw671 rfl rfl dX4_top_30 ?_
      refine z_eqi (b := 2) hcode3 ?_
      refine z_if_le X (tgt := 40) (by omega) dX4_top_33 (by decide) (fun hb33 => absurd hb33 (by omega)) (fun hb33 => ?_)
      refine z_iconst X (n := 0) dX4_top_36 ?_
      refine z_goto X (tgt := 44) dX4_top_37 (by decide) ?_
      exact E S3 (Or.inr (Or.inl ⟨by omega, by omega, by rw [eS3]; exact zGm_code hC0 2⟩)) rfl dX4_top_44
  · refine z_iconst X (n := 1) dX4_top_10 ?_
    refine z_goto X (tgt := 26) dX4_top_11 (by decide) ?_
    refine zn_pcode X dX4_top_26 ?_
    obtain ⟨S4, eS4⟩ : ∃ S9, S9 = fcode M (1) := ⟨_, rfl⟩
    rw [← eS4]
    have O4 := zO_code hO (1)
    rw [← eS4] at O4
    have G4 := mG_code hG (1)
    have hcode4 : S4.2.2.1 = 1 := by rw [eS4]; rfl
    have hmd4 : S4.2.2.2.1 = md := (zO_rm O4).trans G4.2.2.1
    have hkd4 : S4.2.2.2.2.1 = kd := (zO_rk O4).trans G4.2.2.2.1
    refine z_aload_n X 0 rfl rfl dX4_top_29 ?_
    refine z_get X zinX4 0 (by omega) gM_O (ci := 6) rfl 0 (by decide) (ref := "TowerFieldsModel") zw671 rfl rfl dX4_top_30 ?_
    refine z_eqi (b := 1) hcode4 ?_
    refine z_if_le X (tgt := 40) (by omega) dX4_top_33 (by decide) (fun hb33 => absurd hb33 (by omega)) (fun hb33 => ?_)
    refine z_iconst X (n := 0) dX4_top_36 ?_
    refine z_goto X (tgt := 44) dX4_top_37 (by decide) ?_
    exact E S4 (Or.inl ⟨by omega, by rw [eS4]; exact zGm_code hC0 1⟩) rfl dX4_top_44
set_option maxHeartbeats 8000000 in
set_option maxRecDepth 100000 in
theorem q_sum1 {U V : Type} [Lean.Grind.CommRing U] [Lean.Grind.CommRing V] {cu : U → Nat → FP} {ca : V → Nat → U} (HU : mp_P cu) (HA : mp_P ca) (l : Launch) {D : va_G} {ad : Nat → Nat} {cI : ClassId} {EL : Int → V × V} {md kd : Int} {W sD : V} {cd : Int} {M : zM} (hC : zGm cu ca EL md kd W sD cd M) {n1 n2 : Int} (hn1 : -2147483648 ≤ n1 ∧ n1 < 2147483648) (hn2 : -2147483648 ≤ n2 ∧ n2 < 2147483648) (hnz : ∀ n, 0 ≤ n → n < md → (EL n).2 ≠ 0) : zMi l yX4_sum cX4_sum 4 (some .int) 4 D (zTyM cI) 18 ad [.ref (ad 0), .int (iZ (n1)), .int (iZ (n2)), .int (iZ (1))] (gM ad cI M) (gM ad cI) (fun z u => (¬ ((0 ≤ n1 ∧ n1 < md) ∧ (0 ≤ n2 ∧ n2 < md)) ∧ zGm cu ca EL md kd W sD 1 u) ∨ (((0 ≤ n1 ∧ n1 < md) ∧ (0 ≤ n2 ∧ n2 < md)) ∧ ¬ md < 120 ∧ zGm cu ca EL md kd W sD 2 u) ∨ (((0 ≤ n1 ∧ n1 < md) ∧ (0 ≤ n2 ∧ n2 < md)) ∧ md < 120 ∧ z = md ∧ ∃ p q, zLow cu ca ((EL n1).1 * (EL n2).2 + (EL n2).1 * (EL n1).2) ((EL n1).2 * (EL n2).2) p q ∧ zFits cu ca p q ∧ zGm cu ca (zUp EL md (p, q)) (md + 1) kd W sD 0 u) ∨ (((0 ≤ n1 ∧ n1 < md) ∧ (0 ≤ n2 ∧ n2 < md)) ∧ md < 120 ∧ (∃ p q, zLow cu ca ((EL n1).1 * (EL n2).2 + (EL n2).1 * (EL n1).2) ((EL n1).2 * (EL n2).2) p q ∧ ¬ zFits cu ca p q) ∧ zGm cu ca EL md kd W sD 2 u)) := by
  have hC0 := hC
  obtain ⟨⟨F, T, hO, hG⟩, hS⟩ := hC
  have hmd : M.2.2.2.1 = md := (zO_rm hO).trans hG.2.2.1
  have hkd : M.2.2.2.2.1 = kd := (zO_rk hO).trans hG.2.2.2.1
  have hm : 0 ≤ md ∧ md ≤ 120 := by
    have q1 := hG.1.1
    have q2 := hG.1.2.1
    rw [hG.2.2.1] at q1 q2
    exact ⟨q1, q2⟩
  have hel : ∀ n, 0 ≤ n → n < md → mEl cu ca T.1 n (EL n).1 ∧ mEl cu ca T.2.1 n (EL n).2 := fun n h0 h1 => hG.1.2.2 n h0 (by rw [hG.2.2.1]; exact h1)
  refine z_goi zm_X4_sum (Nat.le_of_ble_eq_true rfl) [(0, .ref (ad 0)), (1, .int (iZ (n1))), (2, .int (iZ (n2))), (3, .int (iZ (1)))] rfl (fun p e s m args below meth c A Q X E => ?_)
  refine z_aload_n X 0 rfl rfl dX4_sum_0 ?_
  refine z_iload_n X 1 rfl rfl dX4_sum_1 ?_
  refine z_iload_n X 2 rfl rfl dX4_sum_2 ?_
  refine z_callVi X zm_X4_are zw771 zp29 zw769 (zFit_of (by decide) (by decide)) [.int (iZ (n1)), .int (iZ (n2))] (c_X4_are l M hn1 hn2 hmd hm) rfl rfl (Nat.le_of_ble_eq_true rfl) (by omega) gM_O (q := vwCl[6]) rfl rfl dX4_sum_3 (fun z1 S1 hz1 => ?_)
  have hy1 : z1 = 0 ∨ z1 = 1 := by
    rcases hz1 with q | q | q
    · exact Or.inl q.2.1
    · exact Or.inl q.2.2.1
    · exact Or.inr q.2.2.1
  refine z_if_ne X (tgt := 11) (by omega) dX4_sum_6 (by decide) (fun hb6 => ?_) (fun hb6 => ?_)
  · obtain ⟨hd, hlt, eS1⟩ : ((0 ≤ n1 ∧ n1 < md) ∧ (0 ≤ n2 ∧ n2 < md)) ∧ md < 120 ∧ S1 = fcode M 0 := by
      rcases hz1 with q | q | q
      · exact absurd q.2.1 (by omega)
      · exact absurd q.2.2.1 (by omega)
      · exact ⟨q.1, q.2.1, q.2.2.2⟩
    have O1 := zO_code hO (0)
    rw [← eS1] at O1
    have G1 := mG_code hG (0)
    have hcode1 : S1.2.2.1 = 0 := by rw [eS1]; rfl
    have hmd1 : S1.2.2.2.1 = md := (zO_rm O1).trans G1.2.2.1
    have hkd1 : S1.2.2.2.2.1 = kd := (zO_rk O1).trans G1.2.2.2.1
    obtain ⟨x1a, x1b⟩ := hel n1 (by omega) (by omega)
    obtain ⟨x2a, x2b⟩ := hel n2 (by omega) (by omega)
    have hAd := mp_dom HA (mp_dom HU (mp_Fd_nz mp_FP))
    have hnz1 := hnz n1 (by omega) (by omega)
    have hnz2 := hnz n2 (by omega) (by omega)
    refine z_aload_n X 0 rfl rfl dX4_sum_11 ?_
    refine z_aload_n X 0 rfl rfl dX4_sum_12 ?_
    refine z_get X zinX4 0 (by omega) gM_O (ci := 6) rfl 7 (by decide) (ref := "TowerFieldsModel") zw678 rfl rfl dX4_sum_13 ?_
    refine z_aload_n X 0 rfl rfl dX4_sum_16 ?_
    refine z_get X zinX4 0 (by omega) gM_O (ci := 6) rfl 2 (by decide) (ref := "TowerFieldsModel") zw673 rfl rfl dX4_sum_17 ?_
    refine z_iload_n X 1 rfl rfl dX4_sum_20 ?_
    refine z_callVv X zm_X4_load zw787 zp33 zw785 (zFit_of (by decide) (by decide)) [.ref (ad (5)), .ref (ad (1)), .int (iZ (n1))] (q_load HU HA l O1 (x := 5) (r := 1) (by decide) (by omega) (by omega) (by omega) (a := (EL n1).1) (by rw [zO_r1 O1]; exact x1a)) rfl rfl (Nat.le_of_ble_eq_true rfl) (by omega) gM_O (q := vwCl[6]) rfl rfl dX4_sum_21 (fun S2 O2 => ?_)
    obtain ⟨F2, eF2⟩ : ∃ F9, F9 = va_up F 5 ((EL n1).1) := ⟨_, rfl⟩
    rw [← eF2] at O2
    have v2_5 : F2 5 = (EL n1).1 := by rw [eF2, va_up_self]
    have v2_3 : F2 3 = F 3 := (congrFun eF2 3).trans ((va_up_ne _ _ (by omega)).trans (rfl : F 3 = _))
    have v2_4 : F2 4 = F 4 := (congrFun eF2 4).trans ((va_up_ne _ _ (by omega)).trans (rfl : F 4 = _))
    clear eF2
    refine z_aload_n X 0 rfl rfl dX4_sum_24 ?_
    refine z_aload_n X 0 rfl rfl dX4_sum_25 ?_
    refine z_get X zinX4 0 (by omega) gM_O (ci := 6) rfl 8 (by decide) (ref := "TowerFieldsModel") zw679 rfl rfl dX4_sum_26 ?_
    refine z_aload_n X 0 rfl rfl dX4_sum_29 ?_
    refine z_get X zinX4 0 (by omega) gM_O (ci := 6) rfl 3 (by decide) (ref := "TowerFieldsModel") zw674 rfl rfl dX4_sum_30 ?_
    refine z_iload_n X 1 rfl rfl dX4_sum_33 ?_
    refine z_callVv X zm_X4_load zw787 zp33 zw785 (zFit_of (by decide) (by decide)) [.ref (ad (6)), .ref (ad (2)), .int (iZ (n1))] (q_load HU HA l O2 (x := 6) (r := 2) (by decide) (by omega) (by omega) (by omega) (a := (EL n1).2) (by rw [zO_r2 O2]; exact x1b)) rfl rfl (Nat.le_of_ble_eq_true rfl) (by omega) gM_O (q := vwCl[6]) rfl rfl dX4_sum_34 (fun S3 O3 => ?_)
    obtain ⟨F3, eF3⟩ : ∃ F9, F9 = va_up F2 6 ((EL n1).2) := ⟨_, rfl⟩
    rw [← eF3] at O3
    have v3_6 : F3 6 = (EL n1).2 := by rw [eF3, va_up_self]
    have v3_3 : F3 3 = F 3 := (congrFun eF3 3).trans ((va_up_ne _ _ (by omega)).trans v2_3)
    have v3_4 : F3 4 = F 4 := (congrFun eF3 4).trans ((va_up_ne _ _ (by omega)).trans v2_4)
    have v3_5 : F3 5 = (EL n1).1 := (congrFun eF3 5).trans ((va_up_ne _ _ (by omega)).trans v2_5)
    clear eF3
    refine z_aload_n X 0 rfl rfl dX4_sum_37 ?_
    refine z_aload_n X 0 rfl rfl dX4_sum_38 ?_
    refine z_get X zinX4 0 (by omega) gM_O (ci := 6) rfl 9 (by decide) (ref := "TowerFieldsModel") zw680 rfl rfl dX4_sum_39 ?_
    refine z_aload_n X 0 rfl rfl dX4_sum_42 ?_
    refine z_get X zinX4 0 (by omega) gM_O (ci := 6) rfl 2 (by decide) (ref := "TowerFieldsModel") zw673 rfl rfl dX4_sum_43 ?_
    refine z_iload_n X 2 rfl rfl dX4_sum_46 ?_
    refine z_callVv X zm_X4_load zw787 zp33 zw785 (zFit_of (by decide) (by decide)) [.ref (ad (7)), .ref (ad (1)), .int (iZ (n2))] (q_load HU HA l O3 (x := 7) (r := 1) (by decide) (by omega) (by omega) (by omega) (a := (EL n2).1) (by rw [zO_r1 O3]; exact x2a)) rfl rfl (Nat.le_of_ble_eq_true rfl) (by omega) gM_O (q := vwCl[6]) rfl rfl dX4_sum_47 (fun S4 O4 => ?_)
    obtain ⟨F4, eF4⟩ : ∃ F9, F9 = va_up F3 7 ((EL n2).1) := ⟨_, rfl⟩
    rw [← eF4] at O4
    have v4_7 : F4 7 = (EL n2).1 := by rw [eF4, va_up_self]
    have v4_3 : F4 3 = F 3 := (congrFun eF4 3).trans ((va_up_ne _ _ (by omega)).trans v3_3)
    have v4_4 : F4 4 = F 4 := (congrFun eF4 4).trans ((va_up_ne _ _ (by omega)).trans v3_4)
    have v4_5 : F4 5 = (EL n1).1 := (congrFun eF4 5).trans ((va_up_ne _ _ (by omega)).trans v3_5)
    have v4_6 : F4 6 = (EL n1).2 := (congrFun eF4 6).trans ((va_up_ne _ _ (by omega)).trans v3_6)
    clear eF4
    refine z_aload_n X 0 rfl rfl dX4_sum_50 ?_
    refine z_aload_n X 0 rfl rfl dX4_sum_51 ?_
    refine z_get X zinX4 0 (by omega) gM_O (ci := 6) rfl 10 (by decide) (ref := "TowerFieldsModel") zw681 rfl rfl dX4_sum_52 ?_
    refine z_aload_n X 0 rfl rfl dX4_sum_55 ?_
    refine z_get X zinX4 0 (by omega) gM_O (ci := 6) rfl 3 (by decide) (ref := "TowerFieldsModel") zw674 rfl rfl dX4_sum_56 ?_
    refine z_iload_n X 2 rfl rfl dX4_sum_59 ?_
    refine z_callVv X zm_X4_load zw787 zp33 zw785 (zFit_of (by decide) (by decide)) [.ref (ad (8)), .ref (ad (2)), .int (iZ (n2))] (q_load HU HA l O4 (x := 8) (r := 2) (by decide) (by omega) (by omega) (by omega) (a := (EL n2).2) (by rw [zO_r2 O4]; exact x2b)) rfl rfl (Nat.le_of_ble_eq_true rfl) (by omega) gM_O (q := vwCl[6]) rfl rfl dX4_sum_60 (fun S5 O5 => ?_)
    obtain ⟨F5, eF5⟩ : ∃ F9, F9 = va_up F4 8 ((EL n2).2) := ⟨_, rfl⟩
    rw [← eF5] at O5
    have v5_8 : F5 8 = (EL n2).2 := by rw [eF5, va_up_self]
    have v5_3 : F5 3 = F 3 := (congrFun eF5 3).trans ((va_up_ne _ _ (by omega)).trans v4_3)
    have v5_4 : F5 4 = F 4 := (congrFun eF5 4).trans ((va_up_ne _ _ (by omega)).trans v4_4)
    have v5_5 : F5 5 = (EL n1).1 := (congrFun eF5 5).trans ((va_up_ne _ _ (by omega)).trans v4_5)
    have v5_6 : F5 6 = (EL n1).2 := (congrFun eF5 6).trans ((va_up_ne _ _ (by omega)).trans v4_6)
    have v5_7 : F5 7 = (EL n2).1 := (congrFun eF5 7).trans ((va_up_ne _ _ (by omega)).trans v4_7)
    clear eF5
    refine z_aload_n X 0 rfl rfl dX4_sum_63 ?_
    refine z_aload_n X 0 rfl rfl dX4_sum_64 ?_
    refine z_get X zinX4 0 (by omega) gM_O (ci := 6) rfl 12 (by decide) (ref := "TowerFieldsModel") zw683 rfl rfl dX4_sum_65 ?_
    refine z_aload_n X 0 rfl rfl dX4_sum_68 ?_
    refine z_get X zinX4 0 (by omega) gM_O (ci := 6) rfl 7 (by decide) (ref := "TowerFieldsModel") zw678 rfl rfl dX4_sum_69 ?_
    refine z_aload_n X 0 rfl rfl dX4_sum_72 ?_
    refine z_get X zinX4 0 (by omega) gM_O (ci := 6) rfl 10 (by decide) (ref := "TowerFieldsModel") zw681 rfl rfl dX4_sum_73 ?_
    have bd6 : zbb cu ca 13 13 (((EL n1).1) * ((EL n2).2)) := zbb_mul HU HA x1a.2 x2b.2 (by omega) (by omega)
    refine z_callVv X zm_X4_multiply zw794 zp34 zw792 (zFit_of (by decide) (by decide)) [.ref (ad (10)), .ref (ad (5)), .ref (ad (8))] (q_multiply HU HA l O5 (x := 10) (y := 5) (z := 8) (by decide) (by decide) (by decide) (by omega) (by omega) (by rw [v5_5]; exact x1a.2) (by rw [v5_8]; exact x2b.2) (by omega) (by omega)) rfl rfl (Nat.le_of_ble_eq_true rfl) (by omega) gM_O (q := vwCl[6]) rfl rfl dX4_sum_76 (fun S6 O6 => ?_)
    obtain ⟨F6, eF6⟩ : ∃ F9, F9 = va_up F5 10 (F5 5 * F5 8) := ⟨_, rfl⟩
    rw [← eF6] at O6
    have v6_10 : F6 10 = ((EL n1).1) * ((EL n2).2) := by rw [eF6, va_up_self, v5_5, v5_8]
    have v6_3 : F6 3 = F 3 := (congrFun eF6 3).trans ((va_up_ne _ _ (by omega)).trans v5_3)
    have v6_4 : F6 4 = F 4 := (congrFun eF6 4).trans ((va_up_ne _ _ (by omega)).trans v5_4)
    have v6_5 : F6 5 = (EL n1).1 := (congrFun eF6 5).trans ((va_up_ne _ _ (by omega)).trans v5_5)
    have v6_6 : F6 6 = (EL n1).2 := (congrFun eF6 6).trans ((va_up_ne _ _ (by omega)).trans v5_6)
    have v6_7 : F6 7 = (EL n2).1 := (congrFun eF6 7).trans ((va_up_ne _ _ (by omega)).trans v5_7)
    have v6_8 : F6 8 = (EL n2).2 := (congrFun eF6 8).trans ((va_up_ne _ _ (by omega)).trans v5_8)
    clear eF6
    refine z_aload_n X 0 rfl rfl dX4_sum_79 ?_
    refine z_aload_n X 0 rfl rfl dX4_sum_80 ?_
    refine z_get X zinX4 0 (by omega) gM_O (ci := 6) rfl 11 (by decide) (ref := "TowerFieldsModel") zw682 rfl rfl dX4_sum_81 ?_
    refine z_aload_n X 0 rfl rfl dX4_sum_84 ?_
    refine z_get X zinX4 0 (by omega) gM_O (ci := 6) rfl 9 (by decide) (ref := "TowerFieldsModel") zw680 rfl rfl dX4_sum_85 ?_
    refine z_aload_n X 0 rfl rfl dX4_sum_88 ?_
    refine z_get X zinX4 0 (by omega) gM_O (ci := 6) rfl 8 (by decide) (ref := "TowerFieldsModel") zw679 rfl rfl dX4_sum_89 ?_
    have bd7 : zbb cu ca 13 13 (((EL n2).1) * ((EL n1).2)) := zbb_mul HU HA x2a.2 x1b.2 (by omega) (by omega)
    refine z_callVv X zm_X4_multiply zw794 zp34 zw792 (zFit_of (by decide) (by decide)) [.ref (ad (9)), .ref (ad (7)), .ref (ad (6))] (q_multiply HU HA l O6 (x := 9) (y := 7) (z := 6) (by decide) (by decide) (by decide) (by omega) (by omega) (by rw [v6_7]; exact x2a.2) (by rw [v6_6]; exact x1b.2) (by omega) (by omega)) rfl rfl (Nat.le_of_ble_eq_true rfl) (by omega) gM_O (q := vwCl[6]) rfl rfl dX4_sum_92 (fun S7 O7 => ?_)
    obtain ⟨F7, eF7⟩ : ∃ F9, F9 = va_up F6 9 (F6 7 * F6 6) := ⟨_, rfl⟩
    rw [← eF7] at O7
    have v7_9 : F7 9 = ((EL n2).1) * ((EL n1).2) := by rw [eF7, va_up_self, v6_7, v6_6]
    have v7_3 : F7 3 = F 3 := (congrFun eF7 3).trans ((va_up_ne _ _ (by omega)).trans v6_3)
    have v7_4 : F7 4 = F 4 := (congrFun eF7 4).trans ((va_up_ne _ _ (by omega)).trans v6_4)
    have v7_5 : F7 5 = (EL n1).1 := (congrFun eF7 5).trans ((va_up_ne _ _ (by omega)).trans v6_5)
    have v7_6 : F7 6 = (EL n1).2 := (congrFun eF7 6).trans ((va_up_ne _ _ (by omega)).trans v6_6)
    have v7_7 : F7 7 = (EL n2).1 := (congrFun eF7 7).trans ((va_up_ne _ _ (by omega)).trans v6_7)
    have v7_8 : F7 8 = (EL n2).2 := (congrFun eF7 8).trans ((va_up_ne _ _ (by omega)).trans v6_8)
    have v7_10 : F7 10 = ((EL n1).1) * ((EL n2).2) := (congrFun eF7 10).trans ((va_up_ne _ _ (by omega)).trans v6_10)
    clear eF7
    refine z_aload_n X 0 rfl rfl dX4_sum_95 ?_
    refine z_get X zinX4 0 (by omega) gM_O (ci := 6) rfl 12 (by decide) (ref := "TowerFieldsModel") zw683 rfl rfl dX4_sum_96 ?_
    refine z_aload_n X 0 rfl rfl dX4_sum_99 ?_
    refine z_get X zinX4 0 (by omega) gM_O (ci := 6) rfl 11 (by decide) (ref := "TowerFieldsModel") zw682 rfl rfl dX4_sum_100 ?_
    refine z_iload_n X 3 rfl rfl dX4_sum_103 ?_
    have bd8 : zbb cu ca 13 13 ((((EL n1).1) * ((EL n2).2)) + (((EL n2).1) * ((EL n1).2))) := zbb_add HU HA (zbb_le bd6 (by omega) (by omega)) (zbb_le bd7 (by omega) (by omega))
    refine z_callSv X zm_X4_plus zw800 zw799 (zFit_of (by decide) (by decide)) [.ref (ad (10)), .ref (ad (9)), .int (iZ (1))] (q_plus1 HU HA l O7 (x := 10) (y := 9) (by decide) (by decide) (by omega)) rfl rfl (Nat.le_of_ble_eq_true rfl) dX4_sum_104 (fun S8 O8 => ?_)
    obtain ⟨F8, eF8⟩ : ∃ F9, F9 = va_up F7 10 (F7 10 + F7 9) := ⟨_, rfl⟩
    rw [← eF8] at O8
    have v8_10 : F8 10 = (((EL n1).1) * ((EL n2).2)) + (((EL n2).1) * ((EL n1).2)) := by rw [eF8, va_up_self, v7_10, v7_9]
    have v8_3 : F8 3 = F 3 := (congrFun eF8 3).trans ((va_up_ne _ _ (by omega)).trans v7_3)
    have v8_4 : F8 4 = F 4 := (congrFun eF8 4).trans ((va_up_ne _ _ (by omega)).trans v7_4)
    have v8_5 : F8 5 = (EL n1).1 := (congrFun eF8 5).trans ((va_up_ne _ _ (by omega)).trans v7_5)
    have v8_6 : F8 6 = (EL n1).2 := (congrFun eF8 6).trans ((va_up_ne _ _ (by omega)).trans v7_6)
    have v8_7 : F8 7 = (EL n2).1 := (congrFun eF8 7).trans ((va_up_ne _ _ (by omega)).trans v7_7)
    have v8_8 : F8 8 = (EL n2).2 := (congrFun eF8 8).trans ((va_up_ne _ _ (by omega)).trans v7_8)
    have v8_9 : F8 9 = ((EL n2).1) * ((EL n1).2) := (congrFun eF8 9).trans ((va_up_ne _ _ (by omega)).trans v7_9)
    clear eF8
    refine z_aload_n X 0 rfl rfl dX4_sum_107 ?_
    refine z_aload_n X 0 rfl rfl dX4_sum_108 ?_
    refine z_get X zinX4 0 (by omega) gM_O (ci := 6) rfl 13 (by decide) (ref := "TowerFieldsModel") zw684 rfl rfl dX4_sum_109 ?_
    refine z_aload_n X 0 rfl rfl dX4_sum_112 ?_
    refine z_get X zinX4 0 (by omega) gM_O (ci := 6) rfl 8 (by decide) (ref := "TowerFieldsModel") zw679 rfl rfl dX4_sum_113 ?_
    refine z_aload_n X 0 rfl rfl dX4_sum_116 ?_
    refine z_get X zinX4 0 (by omega) gM_O (ci := 6) rfl 10 (by decide) (ref := "TowerFieldsModel") zw681 rfl rfl dX4_sum_117 ?_
    have bd9 : zbb cu ca 13 13 (((EL n1).2) * ((EL n2).2)) := zbb_mul HU HA x1b.2 x2b.2 (by omega) (by omega)
    refine z_callVv X zm_X4_multiply zw794 zp34 zw792 (zFit_of (by decide) (by decide)) [.ref (ad (11)), .ref (ad (6)), .ref (ad (8))] (q_multiply HU HA l O8 (x := 11) (y := 6) (z := 8) (by decide) (by decide) (by decide) (by omega) (by omega) (by rw [v8_6]; exact x1b.2) (by rw [v8_8]; exact x2b.2) (by omega) (by omega)) rfl rfl (Nat.le_of_ble_eq_true rfl) (by omega) gM_O (q := vwCl[6]) rfl rfl dX4_sum_120 (fun S9 O9 => ?_)
    obtain ⟨F9, eF9⟩ : ∃ F9, F9 = va_up F8 11 (F8 6 * F8 8) := ⟨_, rfl⟩
    rw [← eF9] at O9
    have v9_11 : F9 11 = ((EL n1).2) * ((EL n2).2) := by rw [eF9, va_up_self, v8_6, v8_8]
    have v9_3 : F9 3 = F 3 := (congrFun eF9 3).trans ((va_up_ne _ _ (by omega)).trans v8_3)
    have v9_4 : F9 4 = F 4 := (congrFun eF9 4).trans ((va_up_ne _ _ (by omega)).trans v8_4)
    have v9_5 : F9 5 = (EL n1).1 := (congrFun eF9 5).trans ((va_up_ne _ _ (by omega)).trans v8_5)
    have v9_6 : F9 6 = (EL n1).2 := (congrFun eF9 6).trans ((va_up_ne _ _ (by omega)).trans v8_6)
    have v9_7 : F9 7 = (EL n2).1 := (congrFun eF9 7).trans ((va_up_ne _ _ (by omega)).trans v8_7)
    have v9_8 : F9 8 = (EL n2).2 := (congrFun eF9 8).trans ((va_up_ne _ _ (by omega)).trans v8_8)
    have v9_10 : F9 10 = (((EL n1).1) * ((EL n2).2)) + (((EL n2).1) * ((EL n1).2)) := (congrFun eF9 10).trans ((va_up_ne _ _ (by omega)).trans v8_10)
    have v9_9 : F9 9 = ((EL n2).1) * ((EL n1).2) := (congrFun eF9 9).trans ((va_up_ne _ _ (by omega)).trans v8_9)
    clear eF9
    refine z_aload_n X 0 rfl rfl dX4_sum_123 ?_
    refine z_iconst X (n := 2) dX4_sum_124 ?_
    refine z_callVi X zm_X4_made zw838 zp40 zw836 (zFit_of (by decide) (by decide)) [.int (iZ (2))] (q_made HU HA l O9 (mG_F G1 (F9 := F9) (v9_3.trans (rfl : F 3 = F 3).symm) (v9_4.trans (rfl : F 4 = F 4).symm)) hS hlt (by rw [v9_11]; exact mp_nz_mul hAd hnz1 hnz2) (by rw [v9_10]; exact zbb_le bd8 (by omega) (by omega)) (by rw [v9_11]; exact zbb_le bd9 (by omega) (by omega)) 2) rfl rfl (Nat.le_of_ble_eq_true rfl) (by omega) gM_O (q := vwCl[6]) rfl rfl dX4_sum_125 (fun z10 S10 hz10 => ?_)
    rw [v9_10, v9_11] at hz10
    rcases hz10 with ⟨q1, p, q, q2, q3, q4⟩ | ⟨q1, q2⟩
    · exact E S10 (Or.inr (Or.inr (Or.inl ⟨hd, hlt, q1, p, q, q2, q3, q4⟩))) rfl dX4_sum_128
    · exact E S10 (Or.inr (Or.inr (Or.inr ⟨hd, hlt, q1, q2⟩))) rfl dX4_sum_128
  · refine z_iconst X (n := 0) dX4_sum_9 ?_
    rcases hz1 with ⟨q1, q2, q3⟩ | ⟨q1, q2, q3, q4⟩ | ⟨q1, q2, q3, q4⟩
    · exact E S1 (Or.inl ⟨q1, by rw [q3]; exact zGm_code hC0 1⟩) rfl dX4_sum_10
    · exact E S1 (Or.inr (Or.inl ⟨q1, q2, by rw [q4]; exact zGm_code hC0 2⟩)) rfl dX4_sum_10
    · exact absurd q3 (by omega)
set_option maxHeartbeats 8000000 in
set_option maxRecDepth 100000 in
theorem q_summ {U V : Type} [Lean.Grind.CommRing U] [Lean.Grind.CommRing V] {cu : U → Nat → FP} {ca : V → Nat → U} (HU : mp_P cu) (HA : mp_P ca) (l : Launch) {D : va_G} {ad : Nat → Nat} {cI : ClassId} {EL : Int → V × V} {md kd : Int} {W sD : V} {cd : Int} {M : zM} (hC : zGm cu ca EL md kd W sD cd M) {n1 n2 : Int} (hn1 : -2147483648 ≤ n1 ∧ n1 < 2147483648) (hn2 : -2147483648 ≤ n2 ∧ n2 < 2147483648) (hnz : ∀ n, 0 ≤ n → n < md → (EL n).2 ≠ 0) : zMi l yX4_sum cX4_sum 4 (some .int) 4 D (zTyM cI) 18 ad [.ref (ad 0), .int (iZ (n1)), .int (iZ (n2)), .int (iZ (-1))] (gM ad cI M) (gM ad cI) (fun z u => (¬ ((0 ≤ n1 ∧ n1 < md) ∧ (0 ≤ n2 ∧ n2 < md)) ∧ zGm cu ca EL md kd W sD 1 u) ∨ (((0 ≤ n1 ∧ n1 < md) ∧ (0 ≤ n2 ∧ n2 < md)) ∧ ¬ md < 120 ∧ zGm cu ca EL md kd W sD 2 u) ∨ (((0 ≤ n1 ∧ n1 < md) ∧ (0 ≤ n2 ∧ n2 < md)) ∧ md < 120 ∧ z = md ∧ ∃ p q, zLow cu ca ((EL n1).1 * (EL n2).2 - (EL n2).1 * (EL n1).2) ((EL n1).2 * (EL n2).2) p q ∧ zFits cu ca p q ∧ zGm cu ca (zUp EL md (p, q)) (md + 1) kd W sD 0 u) ∨ (((0 ≤ n1 ∧ n1 < md) ∧ (0 ≤ n2 ∧ n2 < md)) ∧ md < 120 ∧ (∃ p q, zLow cu ca ((EL n1).1 * (EL n2).2 - (EL n2).1 * (EL n1).2) ((EL n1).2 * (EL n2).2) p q ∧ ¬ zFits cu ca p q) ∧ zGm cu ca EL md kd W sD 2 u)) := by
  have hC0 := hC
  obtain ⟨⟨F, T, hO, hG⟩, hS⟩ := hC
  have hmd : M.2.2.2.1 = md := (zO_rm hO).trans hG.2.2.1
  have hkd : M.2.2.2.2.1 = kd := (zO_rk hO).trans hG.2.2.2.1
  have hm : 0 ≤ md ∧ md ≤ 120 := by
    have q1 := hG.1.1
    have q2 := hG.1.2.1
    rw [hG.2.2.1] at q1 q2
    exact ⟨q1, q2⟩
  have hel : ∀ n, 0 ≤ n → n < md → mEl cu ca T.1 n (EL n).1 ∧ mEl cu ca T.2.1 n (EL n).2 := fun n h0 h1 => hG.1.2.2 n h0 (by rw [hG.2.2.1]; exact h1)
  refine z_goi zm_X4_sum (Nat.le_of_ble_eq_true rfl) [(0, .ref (ad 0)), (1, .int (iZ (n1))), (2, .int (iZ (n2))), (3, .int (iZ (-1)))] rfl (fun p e s m args below meth c A Q X E => ?_)
  refine z_aload_n X 0 rfl rfl dX4_sum_0 ?_
  refine z_iload_n X 1 rfl rfl dX4_sum_1 ?_
  refine z_iload_n X 2 rfl rfl dX4_sum_2 ?_
  refine z_callVi X zm_X4_are zw771 zp29 zw769 (zFit_of (by decide) (by decide)) [.int (iZ (n1)), .int (iZ (n2))] (c_X4_are l M hn1 hn2 hmd hm) rfl rfl (Nat.le_of_ble_eq_true rfl) (by omega) gM_O (q := vwCl[6]) rfl rfl dX4_sum_3 (fun z1 S1 hz1 => ?_)
  have hy1 : z1 = 0 ∨ z1 = 1 := by
    rcases hz1 with q | q | q
    · exact Or.inl q.2.1
    · exact Or.inl q.2.2.1
    · exact Or.inr q.2.2.1
  refine z_if_ne X (tgt := 11) (by omega) dX4_sum_6 (by decide) (fun hb6 => ?_) (fun hb6 => ?_)
  · obtain ⟨hd, hlt, eS1⟩ : ((0 ≤ n1 ∧ n1 < md) ∧ (0 ≤ n2 ∧ n2 < md)) ∧ md < 120 ∧ S1 = fcode M 0 := by
      rcases hz1 with q | q | q
      · exact absurd q.2.1 (by omega)
      · exact absurd q.2.2.1 (by omega)
      · exact ⟨q.1, q.2.1, q.2.2.2⟩
    have O1 := zO_code hO (0)
    rw [← eS1] at O1
    have G1 := mG_code hG (0)
    have hcode1 : S1.2.2.1 = 0 := by rw [eS1]; rfl
    have hmd1 : S1.2.2.2.1 = md := (zO_rm O1).trans G1.2.2.1
    have hkd1 : S1.2.2.2.2.1 = kd := (zO_rk O1).trans G1.2.2.2.1
    obtain ⟨x1a, x1b⟩ := hel n1 (by omega) (by omega)
    obtain ⟨x2a, x2b⟩ := hel n2 (by omega) (by omega)
    have hAd := mp_dom HA (mp_dom HU (mp_Fd_nz mp_FP))
    have hnz1 := hnz n1 (by omega) (by omega)
    have hnz2 := hnz n2 (by omega) (by omega)
    refine z_aload_n X 0 rfl rfl dX4_sum_11 ?_
    refine z_aload_n X 0 rfl rfl dX4_sum_12 ?_
    refine z_get X zinX4 0 (by omega) gM_O (ci := 6) rfl 7 (by decide) (ref := "TowerFieldsModel") zw678 rfl rfl dX4_sum_13 ?_
    refine z_aload_n X 0 rfl rfl dX4_sum_16 ?_
    refine z_get X zinX4 0 (by omega) gM_O (ci := 6) rfl 2 (by decide) (ref := "TowerFieldsModel") zw673 rfl rfl dX4_sum_17 ?_
    refine z_iload_n X 1 rfl rfl dX4_sum_20 ?_
    refine z_callVv X zm_X4_load zw787 zp33 zw785 (zFit_of (by decide) (by decide)) [.ref (ad (5)), .ref (ad (1)), .int (iZ (n1))] (q_load HU HA l O1 (x := 5) (r := 1) (by decide) (by omega) (by omega) (by omega) (a := (EL n1).1) (by rw [zO_r1 O1]; exact x1a)) rfl rfl (Nat.le_of_ble_eq_true rfl) (by omega) gM_O (q := vwCl[6]) rfl rfl dX4_sum_21 (fun S2 O2 => ?_)
    obtain ⟨F2, eF2⟩ : ∃ F9, F9 = va_up F 5 ((EL n1).1) := ⟨_, rfl⟩
    rw [← eF2] at O2
    have v2_5 : F2 5 = (EL n1).1 := by rw [eF2, va_up_self]
    have v2_3 : F2 3 = F 3 := (congrFun eF2 3).trans ((va_up_ne _ _ (by omega)).trans (rfl : F 3 = _))
    have v2_4 : F2 4 = F 4 := (congrFun eF2 4).trans ((va_up_ne _ _ (by omega)).trans (rfl : F 4 = _))
    clear eF2
    refine z_aload_n X 0 rfl rfl dX4_sum_24 ?_
    refine z_aload_n X 0 rfl rfl dX4_sum_25 ?_
    refine z_get X zinX4 0 (by omega) gM_O (ci := 6) rfl 8 (by decide) (ref := "TowerFieldsModel") zw679 rfl rfl dX4_sum_26 ?_
    refine z_aload_n X 0 rfl rfl dX4_sum_29 ?_
    refine z_get X zinX4 0 (by omega) gM_O (ci := 6) rfl 3 (by decide) (ref := "TowerFieldsModel") zw674 rfl rfl dX4_sum_30 ?_
    refine z_iload_n X 1 rfl rfl dX4_sum_33 ?_
    refine z_callVv X zm_X4_load zw787 zp33 zw785 (zFit_of (by decide) (by decide)) [.ref (ad (6)), .ref (ad (2)), .int (iZ (n1))] (q_load HU HA l O2 (x := 6) (r := 2) (by decide) (by omega) (by omega) (by omega) (a := (EL n1).2) (by rw [zO_r2 O2]; exact x1b)) rfl rfl (Nat.le_of_ble_eq_true rfl) (by omega) gM_O (q := vwCl[6]) rfl rfl dX4_sum_34 (fun S3 O3 => ?_)
    obtain ⟨F3, eF3⟩ : ∃ F9, F9 = va_up F2 6 ((EL n1).2) := ⟨_, rfl⟩
    rw [← eF3] at O3
    have v3_6 : F3 6 = (EL n1).2 := by rw [eF3, va_up_self]
    have v3_3 : F3 3 = F 3 := (congrFun eF3 3).trans ((va_up_ne _ _ (by omega)).trans v2_3)
    have v3_4 : F3 4 = F 4 := (congrFun eF3 4).trans ((va_up_ne _ _ (by omega)).trans v2_4)
    have v3_5 : F3 5 = (EL n1).1 := (congrFun eF3 5).trans ((va_up_ne _ _ (by omega)).trans v2_5)
    clear eF3
    refine z_aload_n X 0 rfl rfl dX4_sum_37 ?_
    refine z_aload_n X 0 rfl rfl dX4_sum_38 ?_
    refine z_get X zinX4 0 (by omega) gM_O (ci := 6) rfl 9 (by decide) (ref := "TowerFieldsModel") zw680 rfl rfl dX4_sum_39 ?_
    refine z_aload_n X 0 rfl rfl dX4_sum_42 ?_
    refine z_get X zinX4 0 (by omega) gM_O (ci := 6) rfl 2 (by decide) (ref := "TowerFieldsModel") zw673 rfl rfl dX4_sum_43 ?_
    refine z_iload_n X 2 rfl rfl dX4_sum_46 ?_
    refine z_callVv X zm_X4_load zw787 zp33 zw785 (zFit_of (by decide) (by decide)) [.ref (ad (7)), .ref (ad (1)), .int (iZ (n2))] (q_load HU HA l O3 (x := 7) (r := 1) (by decide) (by omega) (by omega) (by omega) (a := (EL n2).1) (by rw [zO_r1 O3]; exact x2a)) rfl rfl (Nat.le_of_ble_eq_true rfl) (by omega) gM_O (q := vwCl[6]) rfl rfl dX4_sum_47 (fun S4 O4 => ?_)
    obtain ⟨F4, eF4⟩ : ∃ F9, F9 = va_up F3 7 ((EL n2).1) := ⟨_, rfl⟩
    rw [← eF4] at O4
    have v4_7 : F4 7 = (EL n2).1 := by rw [eF4, va_up_self]
    have v4_3 : F4 3 = F 3 := (congrFun eF4 3).trans ((va_up_ne _ _ (by omega)).trans v3_3)
    have v4_4 : F4 4 = F 4 := (congrFun eF4 4).trans ((va_up_ne _ _ (by omega)).trans v3_4)
    have v4_5 : F4 5 = (EL n1).1 := (congrFun eF4 5).trans ((va_up_ne _ _ (by omega)).trans v3_5)
    have v4_6 : F4 6 = (EL n1).2 := (congrFun eF4 6).trans ((va_up_ne _ _ (by omega)).trans v3_6)
    clear eF4
    refine z_aload_n X 0 rfl rfl dX4_sum_50 ?_
    refine z_aload_n X 0 rfl rfl dX4_sum_51 ?_
    refine z_get X zinX4 0 (by omega) gM_O (ci := 6) rfl 10 (by decide) (ref := "TowerFieldsModel") zw681 rfl rfl dX4_sum_52 ?_
    refine z_aload_n X 0 rfl rfl dX4_sum_55 ?_
    refine z_get X zinX4 0 (by omega) gM_O (ci := 6) rfl 3 (by decide) (ref := "TowerFieldsModel") zw674 rfl rfl dX4_sum_56 ?_
    refine z_iload_n X 2 rfl rfl dX4_sum_59 ?_
    refine z_callVv X zm_X4_load zw787 zp33 zw785 (zFit_of (by decide) (by decide)) [.ref (ad (8)), .ref (ad (2)), .int (iZ (n2))] (q_load HU HA l O4 (x := 8) (r := 2) (by decide) (by omega) (by omega) (by omega) (a := (EL n2).2) (by rw [zO_r2 O4]; exact x2b)) rfl rfl (Nat.le_of_ble_eq_true rfl) (by omega) gM_O (q := vwCl[6]) rfl rfl dX4_sum_60 (fun S5 O5 => ?_)
    obtain ⟨F5, eF5⟩ : ∃ F9, F9 = va_up F4 8 ((EL n2).2) := ⟨_, rfl⟩
    rw [← eF5] at O5
    have v5_8 : F5 8 = (EL n2).2 := by rw [eF5, va_up_self]
    have v5_3 : F5 3 = F 3 := (congrFun eF5 3).trans ((va_up_ne _ _ (by omega)).trans v4_3)
    have v5_4 : F5 4 = F 4 := (congrFun eF5 4).trans ((va_up_ne _ _ (by omega)).trans v4_4)
    have v5_5 : F5 5 = (EL n1).1 := (congrFun eF5 5).trans ((va_up_ne _ _ (by omega)).trans v4_5)
    have v5_6 : F5 6 = (EL n1).2 := (congrFun eF5 6).trans ((va_up_ne _ _ (by omega)).trans v4_6)
    have v5_7 : F5 7 = (EL n2).1 := (congrFun eF5 7).trans ((va_up_ne _ _ (by omega)).trans v4_7)
    clear eF5
    refine z_aload_n X 0 rfl rfl dX4_sum_63 ?_
    refine z_aload_n X 0 rfl rfl dX4_sum_64 ?_
    refine z_get X zinX4 0 (by omega) gM_O (ci := 6) rfl 12 (by decide) (ref := "TowerFieldsModel") zw683 rfl rfl dX4_sum_65 ?_
    refine z_aload_n X 0 rfl rfl dX4_sum_68 ?_
    refine z_get X zinX4 0 (by omega) gM_O (ci := 6) rfl 7 (by decide) (ref := "TowerFieldsModel") zw678 rfl rfl dX4_sum_69 ?_
    refine z_aload_n X 0 rfl rfl dX4_sum_72 ?_
    refine z_get X zinX4 0 (by omega) gM_O (ci := 6) rfl 10 (by decide) (ref := "TowerFieldsModel") zw681 rfl rfl dX4_sum_73 ?_
    have bd6 : zbb cu ca 13 13 (((EL n1).1) * ((EL n2).2)) := zbb_mul HU HA x1a.2 x2b.2 (by omega) (by omega)
    refine z_callVv X zm_X4_multiply zw794 zp34 zw792 (zFit_of (by decide) (by decide)) [.ref (ad (10)), .ref (ad (5)), .ref (ad (8))] (q_multiply HU HA l O5 (x := 10) (y := 5) (z := 8) (by decide) (by decide) (by decide) (by omega) (by omega) (by rw [v5_5]; exact x1a.2) (by rw [v5_8]; exact x2b.2) (by omega) (by omega)) rfl rfl (Nat.le_of_ble_eq_true rfl) (by omega) gM_O (q := vwCl[6]) rfl rfl dX4_sum_76 (fun S6 O6 => ?_)
    obtain ⟨F6, eF6⟩ : ∃ F9, F9 = va_up F5 10 (F5 5 * F5 8) := ⟨_, rfl⟩
    rw [← eF6] at O6
    have v6_10 : F6 10 = ((EL n1).1) * ((EL n2).2) := by rw [eF6, va_up_self, v5_5, v5_8]
    have v6_3 : F6 3 = F 3 := (congrFun eF6 3).trans ((va_up_ne _ _ (by omega)).trans v5_3)
    have v6_4 : F6 4 = F 4 := (congrFun eF6 4).trans ((va_up_ne _ _ (by omega)).trans v5_4)
    have v6_5 : F6 5 = (EL n1).1 := (congrFun eF6 5).trans ((va_up_ne _ _ (by omega)).trans v5_5)
    have v6_6 : F6 6 = (EL n1).2 := (congrFun eF6 6).trans ((va_up_ne _ _ (by omega)).trans v5_6)
    have v6_7 : F6 7 = (EL n2).1 := (congrFun eF6 7).trans ((va_up_ne _ _ (by omega)).trans v5_7)
    have v6_8 : F6 8 = (EL n2).2 := (congrFun eF6 8).trans ((va_up_ne _ _ (by omega)).trans v5_8)
    clear eF6
    refine z_aload_n X 0 rfl rfl dX4_sum_79 ?_
    refine z_aload_n X 0 rfl rfl dX4_sum_80 ?_
    refine z_get X zinX4 0 (by omega) gM_O (ci := 6) rfl 11 (by decide) (ref := "TowerFieldsModel") zw682 rfl rfl dX4_sum_81 ?_
    refine z_aload_n X 0 rfl rfl dX4_sum_84 ?_
    refine z_get X zinX4 0 (by omega) gM_O (ci := 6) rfl 9 (by decide) (ref := "TowerFieldsModel") zw680 rfl rfl dX4_sum_85 ?_
    refine z_aload_n X 0 rfl rfl dX4_sum_88 ?_
    refine z_get X zinX4 0 (by omega) gM_O (ci := 6) rfl 8 (by decide) (ref := "TowerFieldsModel") zw679 rfl rfl dX4_sum_89 ?_
    have bd7 : zbb cu ca 13 13 (((EL n2).1) * ((EL n1).2)) := zbb_mul HU HA x2a.2 x1b.2 (by omega) (by omega)
    refine z_callVv X zm_X4_multiply zw794 zp34 zw792 (zFit_of (by decide) (by decide)) [.ref (ad (9)), .ref (ad (7)), .ref (ad (6))] (q_multiply HU HA l O6 (x := 9) (y := 7) (z := 6) (by decide) (by decide) (by decide) (by omega) (by omega) (by rw [v6_7]; exact x2a.2) (by rw [v6_6]; exact x1b.2) (by omega) (by omega)) rfl rfl (Nat.le_of_ble_eq_true rfl) (by omega) gM_O (q := vwCl[6]) rfl rfl dX4_sum_92 (fun S7 O7 => ?_)
    obtain ⟨F7, eF7⟩ : ∃ F9, F9 = va_up F6 9 (F6 7 * F6 6) := ⟨_, rfl⟩
    rw [← eF7] at O7
    have v7_9 : F7 9 = ((EL n2).1) * ((EL n1).2) := by rw [eF7, va_up_self, v6_7, v6_6]
    have v7_3 : F7 3 = F 3 := (congrFun eF7 3).trans ((va_up_ne _ _ (by omega)).trans v6_3)
    have v7_4 : F7 4 = F 4 := (congrFun eF7 4).trans ((va_up_ne _ _ (by omega)).trans v6_4)
    have v7_5 : F7 5 = (EL n1).1 := (congrFun eF7 5).trans ((va_up_ne _ _ (by omega)).trans v6_5)
    have v7_6 : F7 6 = (EL n1).2 := (congrFun eF7 6).trans ((va_up_ne _ _ (by omega)).trans v6_6)
    have v7_7 : F7 7 = (EL n2).1 := (congrFun eF7 7).trans ((va_up_ne _ _ (by omega)).trans v6_7)
    have v7_8 : F7 8 = (EL n2).2 := (congrFun eF7 8).trans ((va_up_ne _ _ (by omega)).trans v6_8)
    have v7_10 : F7 10 = ((EL n1).1) * ((EL n2).2) := (congrFun eF7 10).trans ((va_up_ne _ _ (by omega)).trans v6_10)
    clear eF7
    refine z_aload_n X 0 rfl rfl dX4_sum_95 ?_
    refine z_get X zinX4 0 (by omega) gM_O (ci := 6) rfl 12 (by decide) (ref := "TowerFieldsModel") zw683 rfl rfl dX4_sum_96 ?_
    refine z_aload_n X 0 rfl rfl dX4_sum_99 ?_
    refine z_get X zinX4 0 (by omega) gM_O (ci := 6) rfl 11 (by decide) (ref := "TowerFieldsModel") zw682 rfl rfl dX4_sum_100 ?_
    refine z_iload_n X 3 rfl rfl dX4_sum_103 ?_
    have bd8 : zbb cu ca 13 13 ((((EL n1).1) * ((EL n2).2)) - (((EL n2).1) * ((EL n1).2))) := zbb_sub HU HA (zbb_le bd6 (by omega) (by omega)) (zbb_le bd7 (by omega) (by omega))
    refine z_callSv X zm_X4_plus zw800 zw799 (zFit_of (by decide) (by decide)) [.ref (ad (10)), .ref (ad (9)), .int (iZ (-1))] (q_plusm HU HA l O7 (x := 10) (y := 9) (by decide) (by decide) (by omega)) rfl rfl (Nat.le_of_ble_eq_true rfl) dX4_sum_104 (fun S8 O8 => ?_)
    obtain ⟨F8, eF8⟩ : ∃ F9, F9 = va_up F7 10 (F7 10 - F7 9) := ⟨_, rfl⟩
    rw [← eF8] at O8
    have v8_10 : F8 10 = (((EL n1).1) * ((EL n2).2)) - (((EL n2).1) * ((EL n1).2)) := by rw [eF8, va_up_self, v7_10, v7_9]
    have v8_3 : F8 3 = F 3 := (congrFun eF8 3).trans ((va_up_ne _ _ (by omega)).trans v7_3)
    have v8_4 : F8 4 = F 4 := (congrFun eF8 4).trans ((va_up_ne _ _ (by omega)).trans v7_4)
    have v8_5 : F8 5 = (EL n1).1 := (congrFun eF8 5).trans ((va_up_ne _ _ (by omega)).trans v7_5)
    have v8_6 : F8 6 = (EL n1).2 := (congrFun eF8 6).trans ((va_up_ne _ _ (by omega)).trans v7_6)
    have v8_7 : F8 7 = (EL n2).1 := (congrFun eF8 7).trans ((va_up_ne _ _ (by omega)).trans v7_7)
    have v8_8 : F8 8 = (EL n2).2 := (congrFun eF8 8).trans ((va_up_ne _ _ (by omega)).trans v7_8)
    have v8_9 : F8 9 = ((EL n2).1) * ((EL n1).2) := (congrFun eF8 9).trans ((va_up_ne _ _ (by omega)).trans v7_9)
    clear eF8
    refine z_aload_n X 0 rfl rfl dX4_sum_107 ?_
    refine z_aload_n X 0 rfl rfl dX4_sum_108 ?_
    refine z_get X zinX4 0 (by omega) gM_O (ci := 6) rfl 13 (by decide) (ref := "TowerFieldsModel") zw684 rfl rfl dX4_sum_109 ?_
    refine z_aload_n X 0 rfl rfl dX4_sum_112 ?_
    refine z_get X zinX4 0 (by omega) gM_O (ci := 6) rfl 8 (by decide) (ref := "TowerFieldsModel") zw679 rfl rfl dX4_sum_113 ?_
    refine z_aload_n X 0 rfl rfl dX4_sum_116 ?_
    refine z_get X zinX4 0 (by omega) gM_O (ci := 6) rfl 10 (by decide) (ref := "TowerFieldsModel") zw681 rfl rfl dX4_sum_117 ?_
    have bd9 : zbb cu ca 13 13 (((EL n1).2) * ((EL n2).2)) := zbb_mul HU HA x1b.2 x2b.2 (by omega) (by omega)
    refine z_callVv X zm_X4_multiply zw794 zp34 zw792 (zFit_of (by decide) (by decide)) [.ref (ad (11)), .ref (ad (6)), .ref (ad (8))] (q_multiply HU HA l O8 (x := 11) (y := 6) (z := 8) (by decide) (by decide) (by decide) (by omega) (by omega) (by rw [v8_6]; exact x1b.2) (by rw [v8_8]; exact x2b.2) (by omega) (by omega)) rfl rfl (Nat.le_of_ble_eq_true rfl) (by omega) gM_O (q := vwCl[6]) rfl rfl dX4_sum_120 (fun S9 O9 => ?_)
    obtain ⟨F9, eF9⟩ : ∃ F9, F9 = va_up F8 11 (F8 6 * F8 8) := ⟨_, rfl⟩
    rw [← eF9] at O9
    have v9_11 : F9 11 = ((EL n1).2) * ((EL n2).2) := by rw [eF9, va_up_self, v8_6, v8_8]
    have v9_3 : F9 3 = F 3 := (congrFun eF9 3).trans ((va_up_ne _ _ (by omega)).trans v8_3)
    have v9_4 : F9 4 = F 4 := (congrFun eF9 4).trans ((va_up_ne _ _ (by omega)).trans v8_4)
    have v9_5 : F9 5 = (EL n1).1 := (congrFun eF9 5).trans ((va_up_ne _ _ (by omega)).trans v8_5)
    have v9_6 : F9 6 = (EL n1).2 := (congrFun eF9 6).trans ((va_up_ne _ _ (by omega)).trans v8_6)
    have v9_7 : F9 7 = (EL n2).1 := (congrFun eF9 7).trans ((va_up_ne _ _ (by omega)).trans v8_7)
    have v9_8 : F9 8 = (EL n2).2 := (congrFun eF9 8).trans ((va_up_ne _ _ (by omega)).trans v8_8)
    have v9_10 : F9 10 = (((EL n1).1) * ((EL n2).2)) - (((EL n2).1) * ((EL n1).2)) := (congrFun eF9 10).trans ((va_up_ne _ _ (by omega)).trans v8_10)
    have v9_9 : F9 9 = ((EL n2).1) * ((EL n1).2) := (congrFun eF9 9).trans ((va_up_ne _ _ (by omega)).trans v8_9)
    clear eF9
    refine z_aload_n X 0 rfl rfl dX4_sum_123 ?_
    refine z_iconst X (n := 2) dX4_sum_124 ?_
    refine z_callVi X zm_X4_made zw838 zp40 zw836 (zFit_of (by decide) (by decide)) [.int (iZ (2))] (q_made HU HA l O9 (mG_F G1 (F9 := F9) (v9_3.trans (rfl : F 3 = F 3).symm) (v9_4.trans (rfl : F 4 = F 4).symm)) hS hlt (by rw [v9_11]; exact mp_nz_mul hAd hnz1 hnz2) (by rw [v9_10]; exact zbb_le bd8 (by omega) (by omega)) (by rw [v9_11]; exact zbb_le bd9 (by omega) (by omega)) 2) rfl rfl (Nat.le_of_ble_eq_true rfl) (by omega) gM_O (q := vwCl[6]) rfl rfl dX4_sum_125 (fun z10 S10 hz10 => ?_)
    rw [v9_10, v9_11] at hz10
    rcases hz10 with ⟨q1, p, q, q2, q3, q4⟩ | ⟨q1, q2⟩
    · exact E S10 (Or.inr (Or.inr (Or.inl ⟨hd, hlt, q1, p, q, q2, q3, q4⟩))) rfl dX4_sum_128
    · exact E S10 (Or.inr (Or.inr (Or.inr ⟨hd, hlt, q1, q2⟩))) rfl dX4_sum_128
  · refine z_iconst X (n := 0) dX4_sum_9 ?_
    rcases hz1 with ⟨q1, q2, q3⟩ | ⟨q1, q2, q3, q4⟩ | ⟨q1, q2, q3, q4⟩
    · exact E S1 (Or.inl ⟨q1, by rw [q3]; exact zGm_code hC0 1⟩) rfl dX4_sum_10
    · exact E S1 (Or.inr (Or.inl ⟨q1, q2, by rw [q4]; exact zGm_code hC0 2⟩)) rfl dX4_sum_10
    · exact absurd q3 (by omega)
set_option maxHeartbeats 8000000 in
set_option maxRecDepth 100000 in
theorem c_X4_add {U V : Type} [Lean.Grind.CommRing U] [Lean.Grind.CommRing V] {cu : U → Nat → FP} {ca : V → Nat → U} (HU : mp_P cu) (HA : mp_P ca) (l : Launch) {D : va_G} {ad : Nat → Nat} {cI : ClassId} {EL : Int → V × V} {md kd : Int} {W sD : V} {cd : Int} {M : zM} (hC : zGm cu ca EL md kd W sD cd M) {n1 n2 : Int} (hn1 : -2147483648 ≤ n1 ∧ n1 < 2147483648) (hn2 : -2147483648 ≤ n2 ∧ n2 < 2147483648) (hnz : ∀ n, 0 ≤ n → n < md → (EL n).2 ≠ 0) : zMi l yX4_add cX4_add 3 (some .int) 5 D (zTyM cI) 18 ad [.ref (ad 0), .int (iZ (n1)), .int (iZ (n2))] (gM ad cI M) (gM ad cI) (fun z u => (¬ ((0 ≤ n1 ∧ n1 < md) ∧ (0 ≤ n2 ∧ n2 < md)) ∧ zGm cu ca EL md kd W sD 1 u) ∨ (((0 ≤ n1 ∧ n1 < md) ∧ (0 ≤ n2 ∧ n2 < md)) ∧ ¬ md < 120 ∧ zGm cu ca EL md kd W sD 2 u) ∨ (((0 ≤ n1 ∧ n1 < md) ∧ (0 ≤ n2 ∧ n2 < md)) ∧ md < 120 ∧ z = md ∧ ∃ p q, zLow cu ca ((EL n1).1 * (EL n2).2 + (EL n2).1 * (EL n1).2) ((EL n1).2 * (EL n2).2) p q ∧ zFits cu ca p q ∧ zGm cu ca (zUp EL md (p, q)) (md + 1) kd W sD 0 u) ∨ (((0 ≤ n1 ∧ n1 < md) ∧ (0 ≤ n2 ∧ n2 < md)) ∧ md < 120 ∧ (∃ p q, zLow cu ca ((EL n1).1 * (EL n2).2 + (EL n2).1 * (EL n1).2) ((EL n1).2 * (EL n2).2) p q ∧ ¬ zFits cu ca p q) ∧ zGm cu ca EL md kd W sD 2 u)) := by
  refine z_goi zm_X4_add (Nat.le_of_ble_eq_true rfl) [(0, .ref (ad 0)), (1, .int (iZ (n1))), (2, .int (iZ (n2)))] rfl (fun p e s m args below meth c A Q X E => ?_)
  refine z_aload_n X 0 rfl rfl dX4_add_0 ?_
  refine z_iload_n X 1 rfl rfl dX4_add_1 ?_
  refine z_iload_n X 2 rfl rfl dX4_add_2 ?_
  refine z_iconst X (n := 1) dX4_add_3 ?_
  refine z_callVi X zm_X4_sum zw834 zp39 zw832 (zFit_of (by decide) (by decide)) [.int (iZ (n1)), .int (iZ (n2)), .int (iZ (1))] (q_sum1 HU HA l hC hn1 hn2 hnz) rfl rfl (Nat.le_of_ble_eq_true rfl) (by omega) gM_O (q := vwCl[6]) rfl rfl dX4_add_4 (fun z1 S1 hz1 => ?_)
  exact E S1 hz1 rfl dX4_add_7
set_option maxHeartbeats 8000000 in
set_option maxRecDepth 100000 in
theorem c_X4_less {U V : Type} [Lean.Grind.CommRing U] [Lean.Grind.CommRing V] {cu : U → Nat → FP} {ca : V → Nat → U} (HU : mp_P cu) (HA : mp_P ca) (l : Launch) {D : va_G} {ad : Nat → Nat} {cI : ClassId} {EL : Int → V × V} {md kd : Int} {W sD : V} {cd : Int} {M : zM} (hC : zGm cu ca EL md kd W sD cd M) {n1 n2 : Int} (hn1 : -2147483648 ≤ n1 ∧ n1 < 2147483648) (hn2 : -2147483648 ≤ n2 ∧ n2 < 2147483648) (hnz : ∀ n, 0 ≤ n → n < md → (EL n).2 ≠ 0) : zMi l yX4_less cX4_less 3 (some .int) 5 D (zTyM cI) 18 ad [.ref (ad 0), .int (iZ (n1)), .int (iZ (n2))] (gM ad cI M) (gM ad cI) (fun z u => (¬ ((0 ≤ n1 ∧ n1 < md) ∧ (0 ≤ n2 ∧ n2 < md)) ∧ zGm cu ca EL md kd W sD 1 u) ∨ (((0 ≤ n1 ∧ n1 < md) ∧ (0 ≤ n2 ∧ n2 < md)) ∧ ¬ md < 120 ∧ zGm cu ca EL md kd W sD 2 u) ∨ (((0 ≤ n1 ∧ n1 < md) ∧ (0 ≤ n2 ∧ n2 < md)) ∧ md < 120 ∧ z = md ∧ ∃ p q, zLow cu ca ((EL n1).1 * (EL n2).2 - (EL n2).1 * (EL n1).2) ((EL n1).2 * (EL n2).2) p q ∧ zFits cu ca p q ∧ zGm cu ca (zUp EL md (p, q)) (md + 1) kd W sD 0 u) ∨ (((0 ≤ n1 ∧ n1 < md) ∧ (0 ≤ n2 ∧ n2 < md)) ∧ md < 120 ∧ (∃ p q, zLow cu ca ((EL n1).1 * (EL n2).2 - (EL n2).1 * (EL n1).2) ((EL n1).2 * (EL n2).2) p q ∧ ¬ zFits cu ca p q) ∧ zGm cu ca EL md kd W sD 2 u)) := by
  refine z_goi zm_X4_less (Nat.le_of_ble_eq_true rfl) [(0, .ref (ad 0)), (1, .int (iZ (n1))), (2, .int (iZ (n2)))] rfl (fun p e s m args below meth c A Q X E => ?_)
  refine z_aload_n X 0 rfl rfl dX4_less_0 ?_
  refine z_iload_n X 1 rfl rfl dX4_less_1 ?_
  refine z_iload_n X 2 rfl rfl dX4_less_2 ?_
  refine z_iconst X (n := -1) dX4_less_3 ?_
  refine z_callVi X zm_X4_sum zw834 zp39 zw832 (zFit_of (by decide) (by decide)) [.int (iZ (n1)), .int (iZ (n2)), .int (iZ (-1))] (q_summ HU HA l hC hn1 hn2 hnz) rfl rfl (Nat.le_of_ble_eq_true rfl) (by omega) gM_O (q := vwCl[6]) rfl rfl dX4_less_4 (fun z1 S1 hz1 => ?_)
  exact E S1 hz1 rfl dX4_less_7
set_option maxHeartbeats 8000000 in
set_option maxRecDepth 100000 in
theorem c_X4_times {U V : Type} [Lean.Grind.CommRing U] [Lean.Grind.CommRing V] {cu : U → Nat → FP} {ca : V → Nat → U} (HU : mp_P cu) (HA : mp_P ca) (l : Launch) {D : va_G} {ad : Nat → Nat} {cI : ClassId} {EL : Int → V × V} {md kd : Int} {W sD : V} {cd : Int} {M : zM} (hC : zGm cu ca EL md kd W sD cd M) {n1 n2 : Int} (hn1 : -2147483648 ≤ n1 ∧ n1 < 2147483648) (hn2 : -2147483648 ≤ n2 ∧ n2 < 2147483648) (hnz : ∀ n, 0 ≤ n → n < md → (EL n).2 ≠ 0) : zMi l yX4_times cX4_times 3 (some .int) 4 D (zTyM cI) 18 ad [.ref (ad 0), .int (iZ (n1)), .int (iZ (n2))] (gM ad cI M) (gM ad cI) (fun z u => (¬ ((0 ≤ n1 ∧ n1 < md) ∧ (0 ≤ n2 ∧ n2 < md)) ∧ zGm cu ca EL md kd W sD 1 u) ∨ (((0 ≤ n1 ∧ n1 < md) ∧ (0 ≤ n2 ∧ n2 < md)) ∧ ¬ md < 120 ∧ zGm cu ca EL md kd W sD 2 u) ∨ (((0 ≤ n1 ∧ n1 < md) ∧ (0 ≤ n2 ∧ n2 < md)) ∧ md < 120 ∧ z = md ∧ ∃ p q, zLow cu ca ((EL n1).1 * (EL n2).1) ((EL n1).2 * (EL n2).2) p q ∧ zFits cu ca p q ∧ zGm cu ca (zUp EL md (p, q)) (md + 1) kd W sD 0 u) ∨ (((0 ≤ n1 ∧ n1 < md) ∧ (0 ≤ n2 ∧ n2 < md)) ∧ md < 120 ∧ (∃ p q, zLow cu ca ((EL n1).1 * (EL n2).1) ((EL n1).2 * (EL n2).2) p q ∧ ¬ zFits cu ca p q) ∧ zGm cu ca EL md kd W sD 2 u)) := by
  have hC0 := hC
  obtain ⟨⟨F, T, hO, hG⟩, hS⟩ := hC
  have hmd : M.2.2.2.1 = md := (zO_rm hO).trans hG.2.2.1
  have hkd : M.2.2.2.2.1 = kd := (zO_rk hO).trans hG.2.2.2.1
  have hm : 0 ≤ md ∧ md ≤ 120 := by
    have q1 := hG.1.1
    have q2 := hG.1.2.1
    rw [hG.2.2.1] at q1 q2
    exact ⟨q1, q2⟩
  have hel : ∀ n, 0 ≤ n → n < md → mEl cu ca T.1 n (EL n).1 ∧ mEl cu ca T.2.1 n (EL n).2 := fun n h0 h1 => hG.1.2.2 n h0 (by rw [hG.2.2.1]; exact h1)
  refine z_goi zm_X4_times (Nat.le_of_ble_eq_true rfl) [(0, .ref (ad 0)), (1, .int (iZ (n1))), (2, .int (iZ (n2)))] rfl (fun p e s m args below meth c A Q X E => ?_)
  refine z_aload_n X 0 rfl rfl dX4_times_0 ?_
  refine z_iload_n X 1 rfl rfl dX4_times_1 ?_
  refine z_iload_n X 2 rfl rfl dX4_times_2 ?_
  refine z_callVi X zm_X4_are zw771 zp29 zw769 (zFit_of (by decide) (by decide)) [.int (iZ (n1)), .int (iZ (n2))] (c_X4_are l M hn1 hn2 hmd hm) rfl rfl (Nat.le_of_ble_eq_true rfl) (by omega) gM_O (q := vwCl[6]) rfl rfl dX4_times_3 (fun z1 S1 hz1 => ?_)
  have hy1 : z1 = 0 ∨ z1 = 1 := by
    rcases hz1 with q | q | q
    · exact Or.inl q.2.1
    · exact Or.inl q.2.2.1
    · exact Or.inr q.2.2.1
  refine z_if_ne X (tgt := 11) (by omega) dX4_times_6 (by decide) (fun hb6 => ?_) (fun hb6 => ?_)
  · obtain ⟨hd, hlt, eS1⟩ : ((0 ≤ n1 ∧ n1 < md) ∧ (0 ≤ n2 ∧ n2 < md)) ∧ md < 120 ∧ S1 = fcode M 0 := by
      rcases hz1 with q | q | q
      · exact absurd q.2.1 (by omega)
      · exact absurd q.2.2.1 (by omega)
      · exact ⟨q.1, q.2.1, q.2.2.2⟩
    have O1 := zO_code hO (0)
    rw [← eS1] at O1
    have G1 := mG_code hG (0)
    have hcode1 : S1.2.2.1 = 0 := by rw [eS1]; rfl
    have hmd1 : S1.2.2.2.1 = md := (zO_rm O1).trans G1.2.2.1
    have hkd1 : S1.2.2.2.2.1 = kd := (zO_rk O1).trans G1.2.2.2.1
    obtain ⟨x1a, x1b⟩ := hel n1 (by omega) (by omega)
    obtain ⟨x2a, x2b⟩ := hel n2 (by omega) (by omega)
    have hAd := mp_dom HA (mp_dom HU (mp_Fd_nz mp_FP))
    have hnz1 := hnz n1 (by omega) (by omega)
    have hnz2 := hnz n2 (by omega) (by omega)
    refine z_aload_n X 0 rfl rfl dX4_times_11 ?_
    refine z_aload_n X 0 rfl rfl dX4_times_12 ?_
    refine z_get X zinX4 0 (by omega) gM_O (ci := 6) rfl 7 (by decide) (ref := "TowerFieldsModel") zw678 rfl rfl dX4_times_13 ?_
    refine z_aload_n X 0 rfl rfl dX4_times_16 ?_
    refine z_get X zinX4 0 (by omega) gM_O (ci := 6) rfl 2 (by decide) (ref := "TowerFieldsModel") zw673 rfl rfl dX4_times_17 ?_
    refine z_iload_n X 1 rfl rfl dX4_times_20 ?_
    refine z_callVv X zm_X4_load zw787 zp33 zw785 (zFit_of (by decide) (by decide)) [.ref (ad (5)), .ref (ad (1)), .int (iZ (n1))] (q_load HU HA l O1 (x := 5) (r := 1) (by decide) (by omega) (by omega) (by omega) (a := (EL n1).1) (by rw [zO_r1 O1]; exact x1a)) rfl rfl (Nat.le_of_ble_eq_true rfl) (by omega) gM_O (q := vwCl[6]) rfl rfl dX4_times_21 (fun S2 O2 => ?_)
    obtain ⟨F2, eF2⟩ : ∃ F9, F9 = va_up F 5 ((EL n1).1) := ⟨_, rfl⟩
    rw [← eF2] at O2
    have v2_5 : F2 5 = (EL n1).1 := by rw [eF2, va_up_self]
    have v2_3 : F2 3 = F 3 := (congrFun eF2 3).trans ((va_up_ne _ _ (by omega)).trans (rfl : F 3 = _))
    have v2_4 : F2 4 = F 4 := (congrFun eF2 4).trans ((va_up_ne _ _ (by omega)).trans (rfl : F 4 = _))
    clear eF2
    refine z_aload_n X 0 rfl rfl dX4_times_24 ?_
    refine z_aload_n X 0 rfl rfl dX4_times_25 ?_
    refine z_get X zinX4 0 (by omega) gM_O (ci := 6) rfl 8 (by decide) (ref := "TowerFieldsModel") zw679 rfl rfl dX4_times_26 ?_
    refine z_aload_n X 0 rfl rfl dX4_times_29 ?_
    refine z_get X zinX4 0 (by omega) gM_O (ci := 6) rfl 2 (by decide) (ref := "TowerFieldsModel") zw673 rfl rfl dX4_times_30 ?_
    refine z_iload_n X 2 rfl rfl dX4_times_33 ?_
    refine z_callVv X zm_X4_load zw787 zp33 zw785 (zFit_of (by decide) (by decide)) [.ref (ad (6)), .ref (ad (1)), .int (iZ (n2))] (q_load HU HA l O2 (x := 6) (r := 1) (by decide) (by omega) (by omega) (by omega) (a := (EL n2).1) (by rw [zO_r1 O2]; exact x2a)) rfl rfl (Nat.le_of_ble_eq_true rfl) (by omega) gM_O (q := vwCl[6]) rfl rfl dX4_times_34 (fun S3 O3 => ?_)
    obtain ⟨F3, eF3⟩ : ∃ F9, F9 = va_up F2 6 ((EL n2).1) := ⟨_, rfl⟩
    rw [← eF3] at O3
    have v3_6 : F3 6 = (EL n2).1 := by rw [eF3, va_up_self]
    have v3_3 : F3 3 = F 3 := (congrFun eF3 3).trans ((va_up_ne _ _ (by omega)).trans v2_3)
    have v3_4 : F3 4 = F 4 := (congrFun eF3 4).trans ((va_up_ne _ _ (by omega)).trans v2_4)
    have v3_5 : F3 5 = (EL n1).1 := (congrFun eF3 5).trans ((va_up_ne _ _ (by omega)).trans v2_5)
    clear eF3
    refine z_aload_n X 0 rfl rfl dX4_times_37 ?_
    refine z_aload_n X 0 rfl rfl dX4_times_38 ?_
    refine z_get X zinX4 0 (by omega) gM_O (ci := 6) rfl 12 (by decide) (ref := "TowerFieldsModel") zw683 rfl rfl dX4_times_39 ?_
    refine z_aload_n X 0 rfl rfl dX4_times_42 ?_
    refine z_get X zinX4 0 (by omega) gM_O (ci := 6) rfl 7 (by decide) (ref := "TowerFieldsModel") zw678 rfl rfl dX4_times_43 ?_
    refine z_aload_n X 0 rfl rfl dX4_times_46 ?_
    refine z_get X zinX4 0 (by omega) gM_O (ci := 6) rfl 8 (by decide) (ref := "TowerFieldsModel") zw679 rfl rfl dX4_times_47 ?_
    have bd4 : zbb cu ca 13 13 (((EL n1).1) * ((EL n2).1)) := zbb_mul HU HA x1a.2 x2a.2 (by omega) (by omega)
    refine z_callVv X zm_X4_multiply zw794 zp34 zw792 (zFit_of (by decide) (by decide)) [.ref (ad (10)), .ref (ad (5)), .ref (ad (6))] (q_multiply HU HA l O3 (x := 10) (y := 5) (z := 6) (by decide) (by decide) (by decide) (by omega) (by omega) (by rw [v3_5]; exact x1a.2) (by rw [v3_6]; exact x2a.2) (by omega) (by omega)) rfl rfl (Nat.le_of_ble_eq_true rfl) (by omega) gM_O (q := vwCl[6]) rfl rfl dX4_times_50 (fun S4 O4 => ?_)
    obtain ⟨F4, eF4⟩ : ∃ F9, F9 = va_up F3 10 (F3 5 * F3 6) := ⟨_, rfl⟩
    rw [← eF4] at O4
    have v4_10 : F4 10 = ((EL n1).1) * ((EL n2).1) := by rw [eF4, va_up_self, v3_5, v3_6]
    have v4_3 : F4 3 = F 3 := (congrFun eF4 3).trans ((va_up_ne _ _ (by omega)).trans v3_3)
    have v4_4 : F4 4 = F 4 := (congrFun eF4 4).trans ((va_up_ne _ _ (by omega)).trans v3_4)
    have v4_5 : F4 5 = (EL n1).1 := (congrFun eF4 5).trans ((va_up_ne _ _ (by omega)).trans v3_5)
    have v4_6 : F4 6 = (EL n2).1 := (congrFun eF4 6).trans ((va_up_ne _ _ (by omega)).trans v3_6)
    clear eF4
    refine z_aload_n X 0 rfl rfl dX4_times_53 ?_
    refine z_aload_n X 0 rfl rfl dX4_times_54 ?_
    refine z_get X zinX4 0 (by omega) gM_O (ci := 6) rfl 7 (by decide) (ref := "TowerFieldsModel") zw678 rfl rfl dX4_times_55 ?_
    refine z_aload_n X 0 rfl rfl dX4_times_58 ?_
    refine z_get X zinX4 0 (by omega) gM_O (ci := 6) rfl 3 (by decide) (ref := "TowerFieldsModel") zw674 rfl rfl dX4_times_59 ?_
    refine z_iload_n X 1 rfl rfl dX4_times_62 ?_
    refine z_callVv X zm_X4_load zw787 zp33 zw785 (zFit_of (by decide) (by decide)) [.ref (ad (5)), .ref (ad (2)), .int (iZ (n1))] (q_load HU HA l O4 (x := 5) (r := 2) (by decide) (by omega) (by omega) (by omega) (a := (EL n1).2) (by rw [zO_r2 O4]; exact x1b)) rfl rfl (Nat.le_of_ble_eq_true rfl) (by omega) gM_O (q := vwCl[6]) rfl rfl dX4_times_63 (fun S5 O5 => ?_)
    obtain ⟨F5, eF5⟩ : ∃ F9, F9 = va_up F4 5 ((EL n1).2) := ⟨_, rfl⟩
    rw [← eF5] at O5
    have v5_5 : F5 5 = (EL n1).2 := by rw [eF5, va_up_self]
    have v5_3 : F5 3 = F 3 := (congrFun eF5 3).trans ((va_up_ne _ _ (by omega)).trans v4_3)
    have v5_4 : F5 4 = F 4 := (congrFun eF5 4).trans ((va_up_ne _ _ (by omega)).trans v4_4)
    have v5_6 : F5 6 = (EL n2).1 := (congrFun eF5 6).trans ((va_up_ne _ _ (by omega)).trans v4_6)
    have v5_10 : F5 10 = ((EL n1).1) * ((EL n2).1) := (congrFun eF5 10).trans ((va_up_ne _ _ (by omega)).trans v4_10)
    clear eF5
    refine z_aload_n X 0 rfl rfl dX4_times_66 ?_
    refine z_aload_n X 0 rfl rfl dX4_times_67 ?_
    refine z_get X zinX4 0 (by omega) gM_O (ci := 6) rfl 8 (by decide) (ref := "TowerFieldsModel") zw679 rfl rfl dX4_times_68 ?_
    refine z_aload_n X 0 rfl rfl dX4_times_71 ?_
    refine z_get X zinX4 0 (by omega) gM_O (ci := 6) rfl 3 (by decide) (ref := "TowerFieldsModel") zw674 rfl rfl dX4_times_72 ?_
    refine z_iload_n X 2 rfl rfl dX4_times_75 ?_
    refine z_callVv X zm_X4_load zw787 zp33 zw785 (zFit_of (by decide) (by decide)) [.ref (ad (6)), .ref (ad (2)), .int (iZ (n2))] (q_load HU HA l O5 (x := 6) (r := 2) (by decide) (by omega) (by omega) (by omega) (a := (EL n2).2) (by rw [zO_r2 O5]; exact x2b)) rfl rfl (Nat.le_of_ble_eq_true rfl) (by omega) gM_O (q := vwCl[6]) rfl rfl dX4_times_76 (fun S6 O6 => ?_)
    obtain ⟨F6, eF6⟩ : ∃ F9, F9 = va_up F5 6 ((EL n2).2) := ⟨_, rfl⟩
    rw [← eF6] at O6
    have v6_6 : F6 6 = (EL n2).2 := by rw [eF6, va_up_self]
    have v6_3 : F6 3 = F 3 := (congrFun eF6 3).trans ((va_up_ne _ _ (by omega)).trans v5_3)
    have v6_4 : F6 4 = F 4 := (congrFun eF6 4).trans ((va_up_ne _ _ (by omega)).trans v5_4)
    have v6_5 : F6 5 = (EL n1).2 := (congrFun eF6 5).trans ((va_up_ne _ _ (by omega)).trans v5_5)
    have v6_10 : F6 10 = ((EL n1).1) * ((EL n2).1) := (congrFun eF6 10).trans ((va_up_ne _ _ (by omega)).trans v5_10)
    clear eF6
    refine z_aload_n X 0 rfl rfl dX4_times_79 ?_
    refine z_aload_n X 0 rfl rfl dX4_times_80 ?_
    refine z_get X zinX4 0 (by omega) gM_O (ci := 6) rfl 13 (by decide) (ref := "TowerFieldsModel") zw684 rfl rfl dX4_times_81 ?_
    refine z_aload_n X 0 rfl rfl dX4_times_84 ?_
    refine z_get X zinX4 0 (by omega) gM_O (ci := 6) rfl 7 (by decide) (ref := "TowerFieldsModel") zw678 rfl rfl dX4_times_85 ?_
    refine z_aload_n X 0 rfl rfl dX4_times_88 ?_
    refine z_get X zinX4 0 (by omega) gM_O (ci := 6) rfl 8 (by decide) (ref := "TowerFieldsModel") zw679 rfl rfl dX4_times_89 ?_
    have bd7 : zbb cu ca 13 13 (((EL n1).2) * ((EL n2).2)) := zbb_mul HU HA x1b.2 x2b.2 (by omega) (by omega)
    refine z_callVv X zm_X4_multiply zw794 zp34 zw792 (zFit_of (by decide) (by decide)) [.ref (ad (11)), .ref (ad (5)), .ref (ad (6))] (q_multiply HU HA l O6 (x := 11) (y := 5) (z := 6) (by decide) (by decide) (by decide) (by omega) (by omega) (by rw [v6_5]; exact x1b.2) (by rw [v6_6]; exact x2b.2) (by omega) (by omega)) rfl rfl (Nat.le_of_ble_eq_true rfl) (by omega) gM_O (q := vwCl[6]) rfl rfl dX4_times_92 (fun S7 O7 => ?_)
    obtain ⟨F7, eF7⟩ : ∃ F9, F9 = va_up F6 11 (F6 5 * F6 6) := ⟨_, rfl⟩
    rw [← eF7] at O7
    have v7_11 : F7 11 = ((EL n1).2) * ((EL n2).2) := by rw [eF7, va_up_self, v6_5, v6_6]
    have v7_3 : F7 3 = F 3 := (congrFun eF7 3).trans ((va_up_ne _ _ (by omega)).trans v6_3)
    have v7_4 : F7 4 = F 4 := (congrFun eF7 4).trans ((va_up_ne _ _ (by omega)).trans v6_4)
    have v7_5 : F7 5 = (EL n1).2 := (congrFun eF7 5).trans ((va_up_ne _ _ (by omega)).trans v6_5)
    have v7_6 : F7 6 = (EL n2).2 := (congrFun eF7 6).trans ((va_up_ne _ _ (by omega)).trans v6_6)
    have v7_10 : F7 10 = ((EL n1).1) * ((EL n2).1) := (congrFun eF7 10).trans ((va_up_ne _ _ (by omega)).trans v6_10)
    clear eF7
    refine z_aload_n X 0 rfl rfl dX4_times_95 ?_
    refine z_iconst X (n := 2) dX4_times_96 ?_
    refine z_callVi X zm_X4_made zw838 zp40 zw836 (zFit_of (by decide) (by decide)) [.int (iZ (2))] (q_made HU HA l O7 (mG_F G1 (F9 := F7) (v7_3.trans (rfl : F 3 = F 3).symm) (v7_4.trans (rfl : F 4 = F 4).symm)) hS hlt (by rw [v7_11]; exact mp_nz_mul hAd hnz1 hnz2) (by rw [v7_10]; exact zbb_le bd4 (by omega) (by omega)) (by rw [v7_11]; exact zbb_le bd7 (by omega) (by omega)) 2) rfl rfl (Nat.le_of_ble_eq_true rfl) (by omega) gM_O (q := vwCl[6]) rfl rfl dX4_times_97 (fun z8 S8 hz8 => ?_)
    rw [v7_10, v7_11] at hz8
    rcases hz8 with ⟨q1, p, q, q2, q3, q4⟩ | ⟨q1, q2⟩
    · exact E S8 (Or.inr (Or.inr (Or.inl ⟨hd, hlt, q1, p, q, q2, q3, q4⟩))) rfl dX4_times_100
    · exact E S8 (Or.inr (Or.inr (Or.inr ⟨hd, hlt, q1, q2⟩))) rfl dX4_times_100
  · refine z_iconst X (n := 0) dX4_times_9 ?_
    rcases hz1 with ⟨q1, q2, q3⟩ | ⟨q1, q2, q3, q4⟩ | ⟨q1, q2, q3, q4⟩
    · exact E S1 (Or.inl ⟨q1, by rw [q3]; exact zGm_code hC0 1⟩) rfl dX4_times_10
    · exact E S1 (Or.inr (Or.inl ⟨q1, q2, by rw [q4]; exact zGm_code hC0 2⟩)) rfl dX4_times_10
    · exact absurd q3 (by omega)
set_option maxHeartbeats 8000000 in
set_option maxRecDepth 100000 in
theorem c_X4_over {U V : Type} [Lean.Grind.CommRing U] [Lean.Grind.CommRing V] {cu : U → Nat → FP} {ca : V → Nat → U} (HU : mp_P cu) (HA : mp_P ca) (l : Launch) {D : va_G} {ad : Nat → Nat} {cI : ClassId} {EL : Int → V × V} {md kd : Int} {W sD : V} {cd : Int} {M : zM} (hC : zGm cu ca EL md kd W sD cd M) {n1 n2 : Int} (hn1 : -2147483648 ≤ n1 ∧ n1 < 2147483648) (hn2 : -2147483648 ≤ n2 ∧ n2 < 2147483648) (hnz : ∀ n, 0 ≤ n → n < md → (EL n).2 ≠ 0) : zMi l yX4_over cX4_over 3 (some .int) 4 D (zTyM cI) 18 ad [.ref (ad 0), .int (iZ (n1)), .int (iZ (n2))] (gM ad cI M) (gM ad cI) (fun z u => (¬ ((0 ≤ n1 ∧ n1 < md) ∧ (0 ≤ n2 ∧ n2 < md)) ∧ zGm cu ca EL md kd W sD 1 u) ∨ (((0 ≤ n1 ∧ n1 < md) ∧ (0 ≤ n2 ∧ n2 < md)) ∧ ¬ md < 120 ∧ zGm cu ca EL md kd W sD 2 u) ∨ (((0 ≤ n1 ∧ n1 < md) ∧ (0 ≤ n2 ∧ n2 < md)) ∧ md < 120 ∧ (EL n2).1 ≠ 0 ∧ z = md ∧ ∃ p q, zLow cu ca ((EL n1).1 * (EL n2).2) ((EL n1).2 * (EL n2).1) p q ∧ zFits cu ca p q ∧ zGm cu ca (zUp EL md (p, q)) (md + 1) kd W sD 0 u) ∨ (((0 ≤ n1 ∧ n1 < md) ∧ (0 ≤ n2 ∧ n2 < md)) ∧ md < 120 ∧ (EL n2).1 ≠ 0 ∧ (∃ p q, zLow cu ca ((EL n1).1 * (EL n2).2) ((EL n1).2 * (EL n2).1) p q ∧ ¬ zFits cu ca p q) ∧ zGm cu ca EL md kd W sD 2 u) ∨ (((0 ≤ n1 ∧ n1 < md) ∧ (0 ≤ n2 ∧ n2 < md)) ∧ md < 120 ∧ (EL n2).1 = 0 ∧ z = -1 ∧ zGm cu ca EL md kd W sD 0 u)) := by
  have hC0 := hC
  obtain ⟨⟨F, T, hO, hG⟩, hS⟩ := hC
  have hmd : M.2.2.2.1 = md := (zO_rm hO).trans hG.2.2.1
  have hkd : M.2.2.2.2.1 = kd := (zO_rk hO).trans hG.2.2.2.1
  have hm : 0 ≤ md ∧ md ≤ 120 := by
    have q1 := hG.1.1
    have q2 := hG.1.2.1
    rw [hG.2.2.1] at q1 q2
    exact ⟨q1, q2⟩
  have hel : ∀ n, 0 ≤ n → n < md → mEl cu ca T.1 n (EL n).1 ∧ mEl cu ca T.2.1 n (EL n).2 := fun n h0 h1 => hG.1.2.2 n h0 (by rw [hG.2.2.1]; exact h1)
  refine z_goi zm_X4_over (Nat.le_of_ble_eq_true rfl) [(0, .ref (ad 0)), (1, .int (iZ (n1))), (2, .int (iZ (n2)))] rfl (fun p e s m args below meth c A Q X E => ?_)
  refine z_aload_n X 0 rfl rfl dX4_over_0 ?_
  refine z_iload_n X 1 rfl rfl dX4_over_1 ?_
  refine z_iload_n X 2 rfl rfl dX4_over_2 ?_
  refine z_callVi X zm_X4_are zw771 zp29 zw769 (zFit_of (by decide) (by decide)) [.int (iZ (n1)), .int (iZ (n2))] (c_X4_are l M hn1 hn2 hmd hm) rfl rfl (Nat.le_of_ble_eq_true rfl) (by omega) gM_O (q := vwCl[6]) rfl rfl dX4_over_3 (fun z1 S1 hz1 => ?_)
  have hy1 : z1 = 0 ∨ z1 = 1 := by
    rcases hz1 with q | q | q
    · exact Or.inl q.2.1
    · exact Or.inl q.2.2.1
    · exact Or.inr q.2.2.1
  refine z_if_ne X (tgt := 11) (by omega) dX4_over_6 (by decide) (fun hb6 => ?_) (fun hb6 => ?_)
  · obtain ⟨hd, hlt, eS1⟩ : ((0 ≤ n1 ∧ n1 < md) ∧ (0 ≤ n2 ∧ n2 < md)) ∧ md < 120 ∧ S1 = fcode M 0 := by
      rcases hz1 with q | q | q
      · exact absurd q.2.1 (by omega)
      · exact absurd q.2.2.1 (by omega)
      · exact ⟨q.1, q.2.1, q.2.2.2⟩
    have O1 := zO_code hO (0)
    rw [← eS1] at O1
    have G1 := mG_code hG (0)
    have hcode1 : S1.2.2.1 = 0 := by rw [eS1]; rfl
    have hmd1 : S1.2.2.2.1 = md := (zO_rm O1).trans G1.2.2.1
    have hkd1 : S1.2.2.2.2.1 = kd := (zO_rk O1).trans G1.2.2.2.1
    obtain ⟨x1a, x1b⟩ := hel n1 (by omega) (by omega)
    obtain ⟨x2a, x2b⟩ := hel n2 (by omega) (by omega)
    have hAd := mp_dom HA (mp_dom HU (mp_Fd_nz mp_FP))
    have hnz1 := hnz n1 (by omega) (by omega)
    have hnz2 := hnz n2 (by omega) (by omega)
    refine z_aload_n X 0 rfl rfl dX4_over_11 ?_
    refine z_aload_n X 0 rfl rfl dX4_over_12 ?_
    refine z_get X zinX4 0 (by omega) gM_O (ci := 6) rfl 7 (by decide) (ref := "TowerFieldsModel") zw678 rfl rfl dX4_over_13 ?_
    refine z_aload_n X 0 rfl rfl dX4_over_16 ?_
    refine z_get X zinX4 0 (by omega) gM_O (ci := 6) rfl 2 (by decide) (ref := "TowerFieldsModel") zw673 rfl rfl dX4_over_17 ?_
    refine z_iload_n X 1 rfl rfl dX4_over_20 ?_
    refine z_callVv X zm_X4_load zw787 zp33 zw785 (zFit_of (by decide) (by decide)) [.ref (ad (5)), .ref (ad (1)), .int (iZ (n1))] (q_load HU HA l O1 (x := 5) (r := 1) (by decide) (by omega) (by omega) (by omega) (a := (EL n1).1) (by rw [zO_r1 O1]; exact x1a)) rfl rfl (Nat.le_of_ble_eq_true rfl) (by omega) gM_O (q := vwCl[6]) rfl rfl dX4_over_21 (fun S2 O2 => ?_)
    obtain ⟨F2, eF2⟩ : ∃ F9, F9 = va_up F 5 ((EL n1).1) := ⟨_, rfl⟩
    rw [← eF2] at O2
    have v2_5 : F2 5 = (EL n1).1 := by rw [eF2, va_up_self]
    have v2_3 : F2 3 = F 3 := (congrFun eF2 3).trans ((va_up_ne _ _ (by omega)).trans (rfl : F 3 = _))
    have v2_4 : F2 4 = F 4 := (congrFun eF2 4).trans ((va_up_ne _ _ (by omega)).trans (rfl : F 4 = _))
    clear eF2
    refine z_aload_n X 0 rfl rfl dX4_over_24 ?_
    refine z_aload_n X 0 rfl rfl dX4_over_25 ?_
    refine z_get X zinX4 0 (by omega) gM_O (ci := 6) rfl 8 (by decide) (ref := "TowerFieldsModel") zw679 rfl rfl dX4_over_26 ?_
    refine z_aload_n X 0 rfl rfl dX4_over_29 ?_
    refine z_get X zinX4 0 (by omega) gM_O (ci := 6) rfl 3 (by decide) (ref := "TowerFieldsModel") zw674 rfl rfl dX4_over_30 ?_
    refine z_iload_n X 2 rfl rfl dX4_over_33 ?_
    refine z_callVv X zm_X4_load zw787 zp33 zw785 (zFit_of (by decide) (by decide)) [.ref (ad (6)), .ref (ad (2)), .int (iZ (n2))] (q_load HU HA l O2 (x := 6) (r := 2) (by decide) (by omega) (by omega) (by omega) (a := (EL n2).2) (by rw [zO_r2 O2]; exact x2b)) rfl rfl (Nat.le_of_ble_eq_true rfl) (by omega) gM_O (q := vwCl[6]) rfl rfl dX4_over_34 (fun S3 O3 => ?_)
    obtain ⟨F3, eF3⟩ : ∃ F9, F9 = va_up F2 6 ((EL n2).2) := ⟨_, rfl⟩
    rw [← eF3] at O3
    have v3_6 : F3 6 = (EL n2).2 := by rw [eF3, va_up_self]
    have v3_3 : F3 3 = F 3 := (congrFun eF3 3).trans ((va_up_ne _ _ (by omega)).trans v2_3)
    have v3_4 : F3 4 = F 4 := (congrFun eF3 4).trans ((va_up_ne _ _ (by omega)).trans v2_4)
    have v3_5 : F3 5 = (EL n1).1 := (congrFun eF3 5).trans ((va_up_ne _ _ (by omega)).trans v2_5)
    clear eF3
    refine z_aload_n X 0 rfl rfl dX4_over_37 ?_
    refine z_aload_n X 0 rfl rfl dX4_over_38 ?_
    refine z_get X zinX4 0 (by omega) gM_O (ci := 6) rfl 12 (by decide) (ref := "TowerFieldsModel") zw683 rfl rfl dX4_over_39 ?_
    refine z_aload_n X 0 rfl rfl dX4_over_42 ?_
    refine z_get X zinX4 0 (by omega) gM_O (ci := 6) rfl 7 (by decide) (ref := "TowerFieldsModel") zw678 rfl rfl dX4_over_43 ?_
    refine z_aload_n X 0 rfl rfl dX4_over_46 ?_
    refine z_get X zinX4 0 (by omega) gM_O (ci := 6) rfl 8 (by decide) (ref := "TowerFieldsModel") zw679 rfl rfl dX4_over_47 ?_
    have bd4 : zbb cu ca 13 13 (((EL n1).1) * ((EL n2).2)) := zbb_mul HU HA x1a.2 x2b.2 (by omega) (by omega)
    refine z_callVv X zm_X4_multiply zw794 zp34 zw792 (zFit_of (by decide) (by decide)) [.ref (ad (10)), .ref (ad (5)), .ref (ad (6))] (q_multiply HU HA l O3 (x := 10) (y := 5) (z := 6) (by decide) (by decide) (by decide) (by omega) (by omega) (by rw [v3_5]; exact x1a.2) (by rw [v3_6]; exact x2b.2) (by omega) (by omega)) rfl rfl (Nat.le_of_ble_eq_true rfl) (by omega) gM_O (q := vwCl[6]) rfl rfl dX4_over_50 (fun S4 O4 => ?_)
    obtain ⟨F4, eF4⟩ : ∃ F9, F9 = va_up F3 10 (F3 5 * F3 6) := ⟨_, rfl⟩
    rw [← eF4] at O4
    have v4_10 : F4 10 = ((EL n1).1) * ((EL n2).2) := by rw [eF4, va_up_self, v3_5, v3_6]
    have v4_3 : F4 3 = F 3 := (congrFun eF4 3).trans ((va_up_ne _ _ (by omega)).trans v3_3)
    have v4_4 : F4 4 = F 4 := (congrFun eF4 4).trans ((va_up_ne _ _ (by omega)).trans v3_4)
    have v4_5 : F4 5 = (EL n1).1 := (congrFun eF4 5).trans ((va_up_ne _ _ (by omega)).trans v3_5)
    have v4_6 : F4 6 = (EL n2).2 := (congrFun eF4 6).trans ((va_up_ne _ _ (by omega)).trans v3_6)
    clear eF4
    refine z_aload_n X 0 rfl rfl dX4_over_53 ?_
    refine z_aload_n X 0 rfl rfl dX4_over_54 ?_
    refine z_get X zinX4 0 (by omega) gM_O (ci := 6) rfl 7 (by decide) (ref := "TowerFieldsModel") zw678 rfl rfl dX4_over_55 ?_
    refine z_aload_n X 0 rfl rfl dX4_over_58 ?_
    refine z_get X zinX4 0 (by omega) gM_O (ci := 6) rfl 3 (by decide) (ref := "TowerFieldsModel") zw674 rfl rfl dX4_over_59 ?_
    refine z_iload_n X 1 rfl rfl dX4_over_62 ?_
    refine z_callVv X zm_X4_load zw787 zp33 zw785 (zFit_of (by decide) (by decide)) [.ref (ad (5)), .ref (ad (2)), .int (iZ (n1))] (q_load HU HA l O4 (x := 5) (r := 2) (by decide) (by omega) (by omega) (by omega) (a := (EL n1).2) (by rw [zO_r2 O4]; exact x1b)) rfl rfl (Nat.le_of_ble_eq_true rfl) (by omega) gM_O (q := vwCl[6]) rfl rfl dX4_over_63 (fun S5 O5 => ?_)
    obtain ⟨F5, eF5⟩ : ∃ F9, F9 = va_up F4 5 ((EL n1).2) := ⟨_, rfl⟩
    rw [← eF5] at O5
    have v5_5 : F5 5 = (EL n1).2 := by rw [eF5, va_up_self]
    have v5_3 : F5 3 = F 3 := (congrFun eF5 3).trans ((va_up_ne _ _ (by omega)).trans v4_3)
    have v5_4 : F5 4 = F 4 := (congrFun eF5 4).trans ((va_up_ne _ _ (by omega)).trans v4_4)
    have v5_6 : F5 6 = (EL n2).2 := (congrFun eF5 6).trans ((va_up_ne _ _ (by omega)).trans v4_6)
    have v5_10 : F5 10 = ((EL n1).1) * ((EL n2).2) := (congrFun eF5 10).trans ((va_up_ne _ _ (by omega)).trans v4_10)
    clear eF5
    refine z_aload_n X 0 rfl rfl dX4_over_66 ?_
    refine z_aload_n X 0 rfl rfl dX4_over_67 ?_
    refine z_get X zinX4 0 (by omega) gM_O (ci := 6) rfl 8 (by decide) (ref := "TowerFieldsModel") zw679 rfl rfl dX4_over_68 ?_
    refine z_aload_n X 0 rfl rfl dX4_over_71 ?_
    refine z_get X zinX4 0 (by omega) gM_O (ci := 6) rfl 2 (by decide) (ref := "TowerFieldsModel") zw673 rfl rfl dX4_over_72 ?_
    refine z_iload_n X 2 rfl rfl dX4_over_75 ?_
    refine z_callVv X zm_X4_load zw787 zp33 zw785 (zFit_of (by decide) (by decide)) [.ref (ad (6)), .ref (ad (1)), .int (iZ (n2))] (q_load HU HA l O5 (x := 6) (r := 1) (by decide) (by omega) (by omega) (by omega) (a := (EL n2).1) (by rw [zO_r1 O5]; exact x2a)) rfl rfl (Nat.le_of_ble_eq_true rfl) (by omega) gM_O (q := vwCl[6]) rfl rfl dX4_over_76 (fun S6 O6 => ?_)
    obtain ⟨F6, eF6⟩ : ∃ F9, F9 = va_up F5 6 ((EL n2).1) := ⟨_, rfl⟩
    rw [← eF6] at O6
    have v6_6 : F6 6 = (EL n2).1 := by rw [eF6, va_up_self]
    have v6_3 : F6 3 = F 3 := (congrFun eF6 3).trans ((va_up_ne _ _ (by omega)).trans v5_3)
    have v6_4 : F6 4 = F 4 := (congrFun eF6 4).trans ((va_up_ne _ _ (by omega)).trans v5_4)
    have v6_5 : F6 5 = (EL n1).2 := (congrFun eF6 5).trans ((va_up_ne _ _ (by omega)).trans v5_5)
    have v6_10 : F6 10 = ((EL n1).1) * ((EL n2).2) := (congrFun eF6 10).trans ((va_up_ne _ _ (by omega)).trans v5_10)
    clear eF6
    refine z_aload_n X 0 rfl rfl dX4_over_79 ?_
    refine z_aload_n X 0 rfl rfl dX4_over_80 ?_
    refine z_get X zinX4 0 (by omega) gM_O (ci := 6) rfl 13 (by decide) (ref := "TowerFieldsModel") zw684 rfl rfl dX4_over_81 ?_
    refine z_aload_n X 0 rfl rfl dX4_over_84 ?_
    refine z_get X zinX4 0 (by omega) gM_O (ci := 6) rfl 7 (by decide) (ref := "TowerFieldsModel") zw678 rfl rfl dX4_over_85 ?_
    refine z_aload_n X 0 rfl rfl dX4_over_88 ?_
    refine z_get X zinX4 0 (by omega) gM_O (ci := 6) rfl 8 (by decide) (ref := "TowerFieldsModel") zw679 rfl rfl dX4_over_89 ?_
    have bd7 : zbb cu ca 13 13 (((EL n1).2) * ((EL n2).1)) := zbb_mul HU HA x1b.2 x2a.2 (by omega) (by omega)
    refine z_callVv X zm_X4_multiply zw794 zp34 zw792 (zFit_of (by decide) (by decide)) [.ref (ad (11)), .ref (ad (5)), .ref (ad (6))] (q_multiply HU HA l O6 (x := 11) (y := 5) (z := 6) (by decide) (by decide) (by decide) (by omega) (by omega) (by rw [v6_5]; exact x1b.2) (by rw [v6_6]; exact x2a.2) (by omega) (by omega)) rfl rfl (Nat.le_of_ble_eq_true rfl) (by omega) gM_O (q := vwCl[6]) rfl rfl dX4_over_92 (fun S7 O7 => ?_)
    obtain ⟨F7, eF7⟩ : ∃ F9, F9 = va_up F6 11 (F6 5 * F6 6) := ⟨_, rfl⟩
    rw [← eF7] at O7
    have v7_11 : F7 11 = ((EL n1).2) * ((EL n2).1) := by rw [eF7, va_up_self, v6_5, v6_6]
    have v7_3 : F7 3 = F 3 := (congrFun eF7 3).trans ((va_up_ne _ _ (by omega)).trans v6_3)
    have v7_4 : F7 4 = F 4 := (congrFun eF7 4).trans ((va_up_ne _ _ (by omega)).trans v6_4)
    have v7_5 : F7 5 = (EL n1).2 := (congrFun eF7 5).trans ((va_up_ne _ _ (by omega)).trans v6_5)
    have v7_6 : F7 6 = (EL n2).1 := (congrFun eF7 6).trans ((va_up_ne _ _ (by omega)).trans v6_6)
    have v7_10 : F7 10 = ((EL n1).1) * ((EL n2).2) := (congrFun eF7 10).trans ((va_up_ne _ _ (by omega)).trans v6_10)
    clear eF7
    refine z_aload_n X 0 rfl rfl dX4_over_95 ?_
    refine z_get X zinX4 0 (by omega) gM_O (ci := 6) rfl 13 (by decide) (ref := "TowerFieldsModel") zw684 rfl rfl dX4_over_96 ?_
    refine z_callSi X zm_X4_isNone zw803 zw802 (zFit_of (by decide) (by decide)) [.ref (ad (11))] (q_isNone HU HA l O7 (x := 11) (by decide)) rfl rfl (Nat.le_of_ble_eq_true rfl) dX4_over_99 (fun z99 _ hz99 => ?_)
    rw [v7_11] at hz99
    have hy99 : z99 = 0 ∨ z99 = 1 := hz99.elim (fun q => Or.inr q.1) (fun q => Or.inl q.1)
    refine z_if_eq X (tgt := 109) (by omega) dX4_over_102 (by decide) (fun hb102 => ?_) (fun hb102 => ?_)
    · refine z_aload_n X 0 rfl rfl dX4_over_109 ?_
      refine z_iconst X (n := 2) dX4_over_110 ?_
      have hn21 : (EL n2).1 ≠ 0 := fun q => by
        rcases hz99 with r | r
        · omega
        · exact r.2 (by rw [q]; grind)
      refine z_callVi X zm_X4_made zw838 zp40 zw836 (zFit_of (by decide) (by decide)) [.int (iZ (2))] (q_made HU HA l O7 (mG_F G1 (F9 := F7) (v7_3.trans (rfl : F 3 = F 3).symm) (v7_4.trans (rfl : F 4 = F 4).symm)) hS hlt (by rw [v7_11]; exact mp_nz_mul hAd hnz1 hn21) (by rw [v7_10]; exact zbb_le bd4 (by omega) (by omega)) (by rw [v7_11]; exact zbb_le bd7 (by omega) (by omega)) 2) rfl rfl (Nat.le_of_ble_eq_true rfl) (by omega) gM_O (q := vwCl[6]) rfl rfl dX4_over_111 (fun z9 S9 hz9 => ?_)
      rw [v7_10, v7_11] at hz9
      rcases hz9 with ⟨q1, p, q, q2, q3, q4⟩ | ⟨q1, q2⟩
      · exact E S9 (Or.inr (Or.inr (Or.inl ⟨hd, hlt, hn21, q1, p, q, q2, q3, q4⟩))) rfl dX4_over_114
      · exact E S9 (Or.inr (Or.inr (Or.inr (Or.inl ⟨hd, hlt, hn21, q1, q2⟩)))) rfl dX4_over_114
    · refine z_iconst X (n := -1) dX4_over_105 ?_
      refine z_goto X (tgt := 114) dX4_over_106 (by decide) ?_
      have hn20 : (EL n2).1 = 0 := by
        rcases hz99 with r | r
        · exact Classical.byContradiction (fun q => mp_nz_mul hAd hnz1 q r.2)
        · omega
      exact E S7 (Or.inr (Or.inr (Or.inr (Or.inr ⟨hd, hlt, hn20, rfl, ⟨⟨F7, _, O7, (mG_F G1 (F9 := F7) (v7_3.trans (rfl : F 3 = F 3).symm) (v7_4.trans (rfl : F 4 = F 4).symm))⟩, hS⟩⟩)))) rfl dX4_over_114
  · refine z_iconst X (n := 0) dX4_over_9 ?_
    rcases hz1 with ⟨q1, q2, q3⟩ | ⟨q1, q2, q3, q4⟩ | ⟨q1, q2, q3, q4⟩
    · exact E S1 (Or.inl ⟨q1, by rw [q3]; exact zGm_code hC0 1⟩) rfl dX4_over_10
    · exact E S1 (Or.inr (Or.inl ⟨q1, q2, by rw [q4]; exact zGm_code hC0 2⟩)) rfl dX4_over_10
    · exact absurd q3 (by omega)
