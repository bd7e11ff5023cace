set_option maxHeartbeats 8000000 in
set_option maxRecDepth 100000 in
theorem c_X4_letter {U V : Type} [Lean.Grind.CommRing U] [Lean.Grind.CommRing V] {cu : U → Nat → FP} {ca : V → Nat → U} (HU : mp_P cu) (HA : mp_P ca) (l : Launch) {D : va_G} {ad : Nat → Nat} {cI : ClassId} {EL : Int → V × V} {md kd : Int} {W sD : V} {cd : Int} {M : zM} (hC : zGm cu ca EL md kd W sD cd M) (hnz : ∀ n, 0 ≤ n → n < md → (EL n).2 ≠ 0) {kp n : Int} (hkp : -2147483648 ≤ kp ∧ kp < 2147483648) (hn : -2147483648 ≤ n ∧ n < 2147483648) : zMi l yX4_letter cX4_letter 4 (some .int) 5 D (zTyM cI) 18 ad [.ref (ad 0), .int (iZ (kp)), .int (iZ (n))] (gM ad cI M) (gM ad cI) (fun z u => (¬ (0 ≤ n ∧ n < md) ∧ zGm cu ca EL md kd W sD 1 u) ∨ ((0 ≤ n ∧ n < md) ∧ ¬ md < 120 ∧ zGm cu ca EL md kd W sD 2 u) ∨ ((0 ≤ n ∧ n < md) ∧ md < 120 ∧ (kd ≠ 0 ∨ ¬ (kp = 1 ∨ kp = 2) ∨ ¬ (mp_sz ca (EL n).1 ≤ 1 ∧ mp_sz ca (EL n).2 ≤ 1) ∨ md_x cu ca ((EL n).1) * (EL n).2 - md_x cu ca ((EL n).2) * (EL n).1 = 0) ∧ zGm cu ca EL md kd W sD 3 u) ∨ ((0 ≤ n ∧ n < md) ∧ md < 120 ∧ kd = 0 ∧ (kp = 1 ∨ kp = 2) ∧ (mp_sz ca (EL n).1 ≤ 1 ∧ mp_sz ca (EL n).2 ≤ 1) ∧ md_x cu ca ((EL n).1) * (EL n).2 - md_x cu ca ((EL n).2) * (EL n).1 ≠ 0 ∧ z = md ∧ ∃ W9 sD9, zGm cu ca (zUp EL md (mp_m ca (mp_m cu 1 0) 1, 1)) (md + 1) kp W9 sD9 0 u ∧ W9 * ((if kp = 1 then (EL n).1 else (EL n).2) * (EL n).2) = (if kp = 1 then (md_x cu ca ((EL n).1) * (EL n).2 - md_x cu ca ((EL n).2) * (EL n).1) else ms_t ca * (md_x cu ca ((EL n).1) * (EL n).2 - md_x cu ca ((EL n).2) * (EL n).1)) * sD9)) := by
  have hC0 := hC
  obtain ⟨⟨F, T, hO, hG⟩, hS⟩ := hC
  have hmd : M.2.2.2.1 = md := (zO_rm hO).trans hG.2.2.1
  have hkd : M.2.2.2.2.1 = kd := (zO_rk hO).trans hG.2.2.2.1
  have hm : 0 ≤ md ∧ md ≤ 120 := by
    have q1 := hG.1.1
    have q2 := hG.1.2.1
    rw [hG.2.2.1] at q1 q2
    exact ⟨q1, q2⟩
  have hel : ∀ n, 0 ≤ n → n < md → mEl cu ca T.1 n (EL n).1 ∧ mEl cu ca T.2.1 n (EL n).2 := fun n h0 h1 => hG.1.2.2 n h0 (by rw [hG.2.2.1]; exact h1)
  have hkb := hS.2
  refine z_goi zm_X4_letter (Nat.le_of_ble_eq_true rfl) [(0, .ref (ad 0)), (1, .int (iZ (kp))), (2, .int (iZ (n)))] rfl (fun p e s m args below meth c A Q X E => ?_)
  refine z_aload_n X 0 rfl rfl dX4_letter_0 ?_
  refine z_iload_n X 2 rfl rfl dX4_letter_1 ?_
  refine z_iload_n X 2 rfl rfl dX4_letter_2 ?_
  refine z_callVi X zm_X4_are zw771 zp29 zw769 (zFit_of (by decide) (by decide)) [.int (iZ (n)), .int (iZ (n))] (c_X4_are l M hn hn hmd hm) rfl rfl (Nat.le_of_ble_eq_true rfl) (by omega) gM_O (q := vwCl[6]) rfl rfl dX4_letter_3 (fun z1 S1 hz1 => ?_)
  have hy1 : z1 = 0 ∨ z1 = 1 := by
    rcases hz1 with q | q | q
    · exact Or.inl q.2.1
    · exact Or.inl q.2.2.1
    · exact Or.inr q.2.2.1
  refine z_if_ne X (tgt := 11) (by omega) dX4_letter_6 (by decide) (fun hb6 => ?_) (fun hb6 => ?_)
  · obtain ⟨hd, hlt, eS1⟩ : ((0 ≤ n ∧ n < md) ∧ (0 ≤ n ∧ n < md)) ∧ md < 120 ∧ S1 = fcode M 0 := by
      rcases hz1 with q | q | q
      · exact absurd q.2.1 (by omega)
      · exact absurd q.2.2.1 (by omega)
      · exact ⟨q.1, q.2.1, q.2.2.2⟩
    have O1 := zO_code hO (0)
    rw [← eS1] at O1
    have G1 := mG_code hG (0)
    have hcode1 : S1.2.2.1 = 0 := by rw [eS1]; rfl
    have hmd1 : S1.2.2.2.1 = md := (zO_rm O1).trans G1.2.2.1
    have hkd1 : S1.2.2.2.2.1 = kd := (zO_rk O1).trans G1.2.2.2.1
    obtain ⟨x1a, x1b⟩ := hel n (by omega) (by omega)
    have hd1 : (0 ≤ n ∧ n < md) := hd.1
    have hnz1 := hnz n hd1.1 hd1.2
    have hc1 : zGm cu ca EL md kd W sD 0 S1 := by rw [eS1]; exact zGm_code hC0 0
    have hSa := S1
    refine z_aload_n X 0 rfl rfl dX4_letter_11 ?_
    refine z_get X zinX4 0 (by omega) gM_O (ci := 6) rfl 4 (by decide) (ref := "TowerFieldsModel") zw675 rfl rfl dX4_letter_12 ?_
    refine z_eqi (b := kd) hkd1 ?_
    refine z_if_gt X (tgt := 36) (by omega) dX4_letter_15 (by decide) (fun hb15 => ?_) (fun hb15 => ?_)
    · refine z_aload_n X 0 rfl rfl dX4_letter_36 ?_
      refine z_iconst X (n := 3) dX4_letter_37 ?_
      refine z_callVi X zm_X4_raise zw783 zp32 zw781 (zFit_of (by decide) (by decide)) [.int (iZ (3))] (c_X4_raise l S1 3) rfl rfl (Nat.le_of_ble_eq_true rfl) (by omega) gM_O (q := vwCl[6]) rfl rfl dX4_letter_38 (fun zr Sr hzr => ?_)
      exact E Sr (Or.inr (Or.inr (Or.inl ⟨hd1, hlt, by
        by_cases hk9 : kd = 0
        · exact Or.inr (Or.inl (by omega))
        · exact Or.inl hk9, by rw [hzr.2]; exact zGm_code hc1 3⟩))) rfl dX4_letter_41
    · refine z_iload_n X 1 rfl rfl dX4_letter_18 ?_
      refine z_iconst X (n := 1) dX4_letter_19 ?_
      refine z_icmp_lt X (tgt := 36) (by omega) (by omega) dX4_letter_20 (by decide) (fun hb20 => ?_) (fun hb20 => ?_)
      · refine z_aload_n X 0 rfl rfl dX4_letter_36 ?_
        refine z_iconst X (n := 3) dX4_letter_37 ?_
        refine z_callVi X zm_X4_raise zw783 zp32 zw781 (zFit_of (by decide) (by decide)) [.int (iZ (3))] (c_X4_raise l S1 3) rfl rfl (Nat.le_of_ble_eq_true rfl) (by omega) gM_O (q := vwCl[6]) rfl rfl dX4_letter_38 (fun zr Sr hzr => ?_)
        exact E Sr (Or.inr (Or.inr (Or.inl ⟨hd1, hlt, by
          by_cases hk9 : kd = 0
          · exact Or.inr (Or.inl (by omega))
          · exact Or.inl hk9, by rw [hzr.2]; exact zGm_code hc1 3⟩))) rfl dX4_letter_41
      · refine z_iload_n X 1 rfl rfl dX4_letter_23 ?_
        refine z_iconst X (n := 2) dX4_letter_24 ?_
        refine z_icmp_gt X (tgt := 36) (by omega) (by omega) dX4_letter_25 (by decide) (fun hb25 => ?_) (fun hb25 => ?_)
        · refine z_aload_n X 0 rfl rfl dX4_letter_36 ?_
          refine z_iconst X (n := 3) dX4_letter_37 ?_
          refine z_callVi X zm_X4_raise zw783 zp32 zw781 (zFit_of (by decide) (by decide)) [.int (iZ (3))] (c_X4_raise l S1 3) rfl rfl (Nat.le_of_ble_eq_true rfl) (by omega) gM_O (q := vwCl[6]) rfl rfl dX4_letter_38 (fun zr Sr hzr => ?_)
          exact E Sr (Or.inr (Or.inr (Or.inl ⟨hd1, hlt, by
            by_cases hk9 : kd = 0
            · exact Or.inr (Or.inl (by omega))
            · exact Or.inl hk9, by rw [hzr.2]; exact zGm_code hc1 3⟩))) rfl dX4_letter_41
        · refine z_aload_n X 0 rfl rfl dX4_letter_28 ?_
          refine z_iload_n X 2 rfl rfl dX4_letter_29 ?_
          refine z_callVi X zm_X4_isLow zw779 zp31 zw777 (zFit_of (by decide) (by decide)) [.int (iZ (n))] (q_isLow HU HA l O1 G1 hd1) rfl rfl (Nat.le_of_ble_eq_true rfl) (by omega) gM_O (q := vwCl[6]) rfl rfl dX4_letter_30 (fun zL _ hzL => ?_)
          have hyL : zL = 0 ∨ zL = 1 := hzL.elim (fun q => Or.inr q.1) (fun q => Or.inl q.1)
          refine z_if_ne X (tgt := 42) (by omega) dX4_letter_33 (by decide) (fun hb33 => ?_) (fun hb33 => ?_)
          · have hk0 : kd = 0 := by omega
            have hkp3 : kp = 1 ∨ kp = 2 := by omega
            obtain ⟨la, lb⟩ : (mp_sz ca (EL n).1 ≤ 1 ∧ mp_sz ca (EL n).2 ≤ 1) := by
              rcases hzL with q | q
              · exact q.2
              · omega
            have bA := x1a.2
            have bB := x1b.2
            have zA1 : zbb cu ca 1 7 (EL n).1 := ⟨la, bA.2⟩
            have zB1 : zbb cu ca 1 7 (EL n).2 := ⟨lb, bB.2⟩
            refine z_aload_n X 0 rfl rfl dX4_letter_42 ?_
            refine z_aload_n X 0 rfl rfl dX4_letter_43 ?_
            refine z_get X zinX4 0 (by omega) gM_O (ci := 6) rfl 7 (by decide) (ref := "TowerFieldsModel") zw678 rfl rfl dX4_letter_44 ?_
            refine z_aload_n X 0 rfl rfl dX4_letter_47 ?_
            refine z_get X zinX4 0 (by omega) gM_O (ci := 6) rfl 2 (by decide) (ref := "TowerFieldsModel") zw673 rfl rfl dX4_letter_48 ?_
            refine z_iload_n X 2 rfl rfl dX4_letter_51 ?_
            refine z_callVv X zm_X4_load zw787 zp33 zw785 (zFit_of (by decide) (by decide)) [.ref (ad (5)), .ref (ad (1)), .int (iZ (n))] (q_load HU HA l O1 (x := 5) (r := 1) (by decide) (by omega) (by omega) (by omega) (a := (EL n).1) (by rw [zO_r1 O1]; exact x1a)) rfl rfl (Nat.le_of_ble_eq_true rfl) (by omega) gM_O (q := vwCl[6]) rfl rfl dX4_letter_52 (fun S3 O3 => ?_)
            obtain ⟨F3, eF3⟩ : ∃ Fz, Fz = va_up F 5 ((EL n).1) := ⟨_, rfl⟩
            rw [← eF3] at O3
            have v3_5 : F3 5 = (EL n).1 := by rw [eF3, va_up_self]
            clear eF3
            refine z_aload_n X 0 rfl rfl dX4_letter_55 ?_
            refine z_aload_n X 0 rfl rfl dX4_letter_56 ?_
            refine z_get X zinX4 0 (by omega) gM_O (ci := 6) rfl 8 (by decide) (ref := "TowerFieldsModel") zw679 rfl rfl dX4_letter_57 ?_
            refine z_aload_n X 0 rfl rfl dX4_letter_60 ?_
            refine z_get X zinX4 0 (by omega) gM_O (ci := 6) rfl 3 (by decide) (ref := "TowerFieldsModel") zw674 rfl rfl dX4_letter_61 ?_
            refine z_iload_n X 2 rfl rfl dX4_letter_64 ?_
            refine z_callVv X zm_X4_load zw787 zp33 zw785 (zFit_of (by decide) (by decide)) [.ref (ad (6)), .ref (ad (2)), .int (iZ (n))] (q_load HU HA l O3 (x := 6) (r := 2) (by decide) (by omega) (by omega) (by omega) (a := (EL n).2) (by rw [zO_r2 O3]; exact x1b)) rfl rfl (Nat.le_of_ble_eq_true rfl) (by omega) gM_O (q := vwCl[6]) rfl rfl dX4_letter_65 (fun S4 O4 => ?_)
            obtain ⟨F4, eF4⟩ : ∃ Fz, Fz = va_up F3 6 ((EL n).2) := ⟨_, rfl⟩
            rw [← eF4] at O4
            have v4_6 : F4 6 = (EL n).2 := by rw [eF4, va_up_self]
            have v4_5 : F4 5 = (EL n).1 := (congrFun eF4 5).trans ((va_up_ne _ _ (by omega)).trans v3_5)
            clear eF4
            refine z_aload_n X 0 rfl rfl dX4_letter_68 ?_
            refine z_get X zinX4 0 (by omega) gM_O (ci := 6) rfl 9 (by decide) (ref := "TowerFieldsModel") zw680 rfl rfl dX4_letter_69 ?_
            refine z_aload_n X 0 rfl rfl dX4_letter_72 ?_
            refine z_get X zinX4 0 (by omega) gM_O (ci := 6) rfl 7 (by decide) (ref := "TowerFieldsModel") zw678 rfl rfl dX4_letter_73 ?_
            refine z_iconst X (n := 1) dX4_letter_76 ?_
            have bd5 : zbb cu ca 1 7 (md_x cu ca ((EL n).1)) := zbb_x HU HA zA1
            refine z_callSv X zm_X4_slope zw790 zw789 (zFit_of (by decide) (by decide)) [.ref (ad (7)), .ref (ad (5)), .int (iZ (1))] (q_slope1 HU HA l O4 (x := 7) (y := 5) (by decide) (by decide) (by omega)) rfl rfl (Nat.le_of_ble_eq_true rfl) dX4_letter_77 (fun S5 O5 => ?_)
            obtain ⟨F5, eF5⟩ : ∃ Fz, Fz = va_up F4 7 (md_x cu ca (F4 5)) := ⟨_, rfl⟩
            rw [← eF5] at O5
            have v5_7 : F5 7 = md_x cu ca ((EL n).1) := by rw [eF5, va_up_self, v4_5]
            have v5_5 : F5 5 = (EL n).1 := (congrFun eF5 5).trans ((va_up_ne _ _ (by omega)).trans v4_5)
            have v5_6 : F5 6 = (EL n).2 := (congrFun eF5 6).trans ((va_up_ne _ _ (by omega)).trans v4_6)
            clear eF5
            refine z_aload_n X 0 rfl rfl dX4_letter_80 ?_
            refine z_aload_n X 0 rfl rfl dX4_letter_81 ?_
            refine z_get X zinX4 0 (by omega) gM_O (ci := 6) rfl 10 (by decide) (ref := "TowerFieldsModel") zw681 rfl rfl dX4_letter_82 ?_
            refine z_aload_n X 0 rfl rfl dX4_letter_85 ?_
            refine z_get X zinX4 0 (by omega) gM_O (ci := 6) rfl 9 (by decide) (ref := "TowerFieldsModel") zw680 rfl rfl dX4_letter_86 ?_
            refine z_aload_n X 0 rfl rfl dX4_letter_89 ?_
            refine z_get X zinX4 0 (by omega) gM_O (ci := 6) rfl 8 (by decide) (ref := "TowerFieldsModel") zw679 rfl rfl dX4_letter_90 ?_
            have bd6 : zbb cu ca 1 13 ((md_x cu ca ((EL n).1)) * ((EL n).2)) := zbb_mul HU HA bd5 zB1 (by omega) (by omega)
            refine z_callVv X zm_X4_multiply zw794 zp34 zw792 (zFit_of (by decide) (by decide)) [.ref (ad (8)), .ref (ad (7)), .ref (ad (6))] (q_multiply HU HA l O5 (x := 8) (y := 7) (z := 6) (by decide) (by decide) (by decide) (by omega) (by omega) (by rw [v5_7]; exact bd5) (by rw [v5_6]; exact zB1) (by omega) (by omega)) rfl rfl (Nat.le_of_ble_eq_true rfl) (by omega) gM_O (q := vwCl[6]) rfl rfl dX4_letter_93 (fun S6 O6 => ?_)
            obtain ⟨F6, eF6⟩ : ∃ Fz, Fz = va_up F5 8 (F5 7 * F5 6) := ⟨_, rfl⟩
            rw [← eF6] at O6
            have v6_8 : F6 8 = (md_x cu ca ((EL n).1)) * ((EL n).2) := by rw [eF6, va_up_self, v5_7, v5_6]
            have v6_5 : F6 5 = (EL n).1 := (congrFun eF6 5).trans ((va_up_ne _ _ (by omega)).trans v5_5)
            have v6_6 : F6 6 = (EL n).2 := (congrFun eF6 6).trans ((va_up_ne _ _ (by omega)).trans v5_6)
            have v6_7 : F6 7 = md_x cu ca ((EL n).1) := (congrFun eF6 7).trans ((va_up_ne _ _ (by omega)).trans v5_7)
            clear eF6
            refine z_aload_n X 0 rfl rfl dX4_letter_96 ?_
            refine z_get X zinX4 0 (by omega) gM_O (ci := 6) rfl 9 (by decide) (ref := "TowerFieldsModel") zw680 rfl rfl dX4_letter_97 ?_
            refine z_aload_n X 0 rfl rfl dX4_letter_100 ?_
            refine z_get X zinX4 0 (by omega) gM_O (ci := 6) rfl 8 (by decide) (ref := "TowerFieldsModel") zw679 rfl rfl dX4_letter_101 ?_
            refine z_iconst X (n := 1) dX4_letter_104 ?_
            have bd7 : zbb cu ca 1 7 (md_x cu ca ((EL n).2)) := zbb_x HU HA zB1
            refine z_callSv X zm_X4_slope zw790 zw789 (zFit_of (by decide) (by decide)) [.ref (ad (7)), .ref (ad (6)), .int (iZ (1))] (q_slope1 HU HA l O6 (x := 7) (y := 6) (by decide) (by decide) (by omega)) rfl rfl (Nat.le_of_ble_eq_true rfl) dX4_letter_105 (fun S7 O7 => ?_)
            obtain ⟨F7, eF7⟩ : ∃ Fz, Fz = va_up F6 7 (md_x cu ca (F6 6)) := ⟨_, rfl⟩
            rw [← eF7] at O7
            have v7_7 : F7 7 = md_x cu ca ((EL n).2) := by rw [eF7, va_up_self, v6_6]
            have v7_5 : F7 5 = (EL n).1 := (congrFun eF7 5).trans ((va_up_ne _ _ (by omega)).trans v6_5)
            have v7_6 : F7 6 = (EL n).2 := (congrFun eF7 6).trans ((va_up_ne _ _ (by omega)).trans v6_6)
            have v7_8 : F7 8 = (md_x cu ca ((EL n).1)) * ((EL n).2) := (congrFun eF7 8).trans ((va_up_ne _ _ (by omega)).trans v6_8)
            clear eF7
            refine z_aload_n X 0 rfl rfl dX4_letter_108 ?_
            refine z_aload_n X 0 rfl rfl dX4_letter_109 ?_
            refine z_get X zinX4 0 (by omega) gM_O (ci := 6) rfl 11 (by decide) (ref := "TowerFieldsModel") zw682 rfl rfl dX4_letter_110 ?_
            refine z_aload_n X 0 rfl rfl dX4_letter_113 ?_
            refine z_get X zinX4 0 (by omega) gM_O (ci := 6) rfl 9 (by decide) (ref := "TowerFieldsModel") zw680 rfl rfl dX4_letter_114 ?_
            refine z_aload_n X 0 rfl rfl dX4_letter_117 ?_
            refine z_get X zinX4 0 (by omega) gM_O (ci := 6) rfl 7 (by decide) (ref := "TowerFieldsModel") zw678 rfl rfl dX4_letter_118 ?_
            have bd8 : zbb cu ca 1 13 ((md_x cu ca ((EL n).2)) * ((EL n).1)) := zbb_mul HU HA bd7 zA1 (by omega) (by omega)
            refine z_callVv X zm_X4_multiply zw794 zp34 zw792 (zFit_of (by decide) (by decide)) [.ref (ad (9)), .ref (ad (7)), .ref (ad (5))] (q_multiply HU HA l O7 (x := 9) (y := 7) (z := 5) (by decide) (by decide) (by decide) (by omega) (by omega) (by rw [v7_7]; exact bd7) (by rw [v7_5]; exact zA1) (by omega) (by omega)) rfl rfl (Nat.le_of_ble_eq_true rfl) (by omega) gM_O (q := vwCl[6]) rfl rfl dX4_letter_121 (fun S8 O8 => ?_)
            obtain ⟨F8, eF8⟩ : ∃ Fz, Fz = va_up F7 9 (F7 7 * F7 5) := ⟨_, rfl⟩
            rw [← eF8] at O8
            have v8_9 : F8 9 = (md_x cu ca ((EL n).2)) * ((EL n).1) := by rw [eF8, va_up_self, v7_7, v7_5]
            have v8_5 : F8 5 = (EL n).1 := (congrFun eF8 5).trans ((va_up_ne _ _ (by omega)).trans v7_5)
            have v8_6 : F8 6 = (EL n).2 := (congrFun eF8 6).trans ((va_up_ne _ _ (by omega)).trans v7_6)
            have v8_7 : F8 7 = md_x cu ca ((EL n).2) := (congrFun eF8 7).trans ((va_up_ne _ _ (by omega)).trans v7_7)
            have v8_8 : F8 8 = (md_x cu ca ((EL n).1)) * ((EL n).2) := (congrFun eF8 8).trans ((va_up_ne _ _ (by omega)).trans v7_8)
            clear eF8
            refine z_aload_n X 0 rfl rfl dX4_letter_124 ?_
            refine z_get X zinX4 0 (by omega) gM_O (ci := 6) rfl 10 (by decide) (ref := "TowerFieldsModel") zw681 rfl rfl dX4_letter_125 ?_
            refine z_aload_n X 0 rfl rfl dX4_letter_128 ?_
            refine z_get X zinX4 0 (by omega) gM_O (ci := 6) rfl 11 (by decide) (ref := "TowerFieldsModel") zw682 rfl rfl dX4_letter_129 ?_
            refine z_iconst X (n := -1) dX4_letter_132 ?_
            have bd9 : zbb cu ca 1 13 (((md_x cu ca ((EL n).1)) * ((EL n).2)) - ((md_x cu ca ((EL n).2)) * ((EL n).1))) := zbb_sub HU HA (zbb_le bd6 (by omega) (by omega)) (zbb_le bd8 (by omega) (by omega))
            refine z_callSv X zm_X4_plus zw800 zw799 (zFit_of (by decide) (by decide)) [.ref (ad (8)), .ref (ad (9)), .int (iZ (-1))] (q_plusm HU HA l O8 (x := 8) (y := 9) (by decide) (by decide) (by omega)) rfl rfl (Nat.le_of_ble_eq_true rfl) dX4_letter_133 (fun S9 O9 => ?_)
            obtain ⟨F9, eF9⟩ : ∃ Fz, Fz = va_up F8 8 (F8 8 - F8 9) := ⟨_, rfl⟩
            rw [← eF9] at O9
            have v9_8 : F9 8 = ((md_x cu ca ((EL n).1)) * ((EL n).2)) - ((md_x cu ca ((EL n).2)) * ((EL n).1)) := by rw [eF9, va_up_self, v8_8, v8_9]
            have v9_5 : F9 5 = (EL n).1 := (congrFun eF9 5).trans ((va_up_ne _ _ (by omega)).trans v8_5)
            have v9_6 : F9 6 = (EL n).2 := (congrFun eF9 6).trans ((va_up_ne _ _ (by omega)).trans v8_6)
            have v9_7 : F9 7 = md_x cu ca ((EL n).2) := (congrFun eF9 7).trans ((va_up_ne _ _ (by omega)).trans v8_7)
            have v9_9 : F9 9 = (md_x cu ca ((EL n).2)) * ((EL n).1) := (congrFun eF9 9).trans ((va_up_ne _ _ (by omega)).trans v8_9)
            clear eF9
            refine z_aload_n X 0 rfl rfl dX4_letter_136 ?_
            refine z_get X zinX4 0 (by omega) gM_O (ci := 6) rfl 10 (by decide) (ref := "TowerFieldsModel") zw681 rfl rfl dX4_letter_137 ?_
            refine z_callSi X zm_X4_isNone zw803 zw802 (zFit_of (by decide) (by decide)) [.ref (ad (8))] (q_isNone HU HA l O9 (x := 8) (by decide)) rfl rfl (Nat.le_of_ble_eq_true rfl) dX4_letter_140 (fun z140 _ hz140 => ?_)
            rw [v9_8] at hz140
            have hy140 : z140 = 0 ∨ z140 = 1 := hz140.elim (fun q => Or.inr q.1) (fun q => Or.inl q.1)
            refine z_if_eq X (tgt := 152) (by omega) dX4_letter_143 (by decide) (fun hb143 => ?_) (fun hb143 => ?_)
            · refine z_aload_n X 0 rfl rfl dX4_letter_152 ?_
              refine z_iload_n X 1 rfl rfl dX4_letter_153 ?_
              have hDD : md_x cu ca ((EL n).1) * (EL n).2 - md_x cu ca ((EL n).2) * (EL n).1 ≠ 0 := by
                rcases hz140 with q | q
                · omega
                · exact q.2
              refine zn_pkind X dX4_letter_154 ?_
              obtain ⟨S11, eS11⟩ : ∃ Sz, Sz = fkind S9 kp := ⟨_, rfl⟩
              have O11 := zO_kind O9 kp
              rw [← eS11] at O11 ⊢
              refine z_aload_n X 0 rfl rfl dX4_letter_157 ?_
              refine z_get X zinX4 0 (by omega) gM_O (ci := 6) rfl 5 (by decide) (ref := "TowerFieldsModel") zw676 rfl rfl dX4_letter_158 ?_
              refine z_callSv X zm_X4_clear zw748 zw747 (zFit_of (by decide) (by decide)) [.ref (ad (3))] (q_clear HU HA l O11 (x := 3) (by decide)) rfl rfl (Nat.le_of_ble_eq_true rfl) dX4_letter_161 (fun S12 O12 => ?_)
              obtain ⟨F12, eF12⟩ : ∃ Fz, Fz = va_up F9 3 (0) := ⟨_, rfl⟩
              rw [← eF12] at O12
              have v12_3 : F12 3 = 0 := by rw [eF12, va_up_self]
              have v12_5 : F12 5 = (EL n).1 := (congrFun eF12 5).trans ((va_up_ne _ _ (by omega)).trans v9_5)
              have v12_6 : F12 6 = (EL n).2 := (congrFun eF12 6).trans ((va_up_ne _ _ (by omega)).trans v9_6)
              have v12_7 : F12 7 = md_x cu ca ((EL n).2) := (congrFun eF12 7).trans ((va_up_ne _ _ (by omega)).trans v9_7)
              have v12_8 : F12 8 = ((md_x cu ca ((EL n).1)) * ((EL n).2)) - ((md_x cu ca ((EL n).2)) * ((EL n).1)) := (congrFun eF12 8).trans ((va_up_ne _ _ (by omega)).trans v9_8)
              have v12_9 : F12 9 = (md_x cu ca ((EL n).2)) * ((EL n).1) := (congrFun eF12 9).trans ((va_up_ne _ _ (by omega)).trans v9_9)
              clear eF12
              refine z_iload_n X 1 rfl rfl dX4_letter_164 ?_
              refine z_iconst X (n := 1) dX4_letter_165 ?_
              refine z_icmp_ne X (tgt := 199) (by omega) (by omega) dX4_letter_166 (by decide) (fun hb166 => ?_) (fun hb166 => ?_)
              · refine z_iconst X (n := 0) dX4_letter_199 ?_
                refine z_istore_n X [(3, .int (iZ (0))), (0, .ref (ad 0)), (1, .int (iZ (kp))), (2, .int (iZ (n)))] rfl rfl (by decide) dX4_letter_200 ?_
                have hDlow : md_x cu ca ((EL n).1) * (EL n).2 - md_x cu ca ((EL n).2) * (EL n).1 = mp_C ca (ca (md_x cu ca ((EL n).1) * (EL n).2 - md_x cu ca ((EL n).2) * (EL n).1) 0) := mp_sz_1 HA bd9.1
                have b8 := bd9
                obtain ⟨d9, ed9⟩ : ∃ d9, d9 = ca (md_x cu ca ((EL n).1) * (EL n).2 - md_x cu ca ((EL n).2) * (EL n).1) 0 := ⟨_, rfl⟩
                rw [← ed9] at hDlow
                have bd9 : mp_sz cu d9 ≤ 13 := by rw [ed9]; exact Nat.le_trans (mp_xz_row HU HA _ 0) b8.2
                have btd : zbb cu ca 2 13 (ms_t ca * mp_C ca d9) := ⟨mp_sz_le HA (fun r hr => by rw [ms_t_mul HA]; split; exact (by rw [mp_C_cf HA, if_neg (by omega)]); rfl), mp_xz_le HU HA (fun r => by
                  rw [ms_t_mul HA]
                  split
                  · rw [mp_C_cf HA]
                    split
                    · exact bd9
                    · exact mp_sz_le HU (fun n _ => mp_zero HU n)
                  · exact mp_sz_le HU (fun n _ => mp_zero HU n))⟩
                have h8v : ∀ j, j < 40 → S12.1 8 j = cu d9 j := fun j hj => by rw [zO_at O12 (x := 8) (by decide) _ (by omega), v12_8, hDlow, mk_C HU HA]
                rw [← fa_self S12 3]
                have loopT : ∀ (kloopT : Nat) (i : Int) (ft : Nat → FP) (lv : List (Nat × Value)) (ks : List Nat), i + kloopT = 40 → 0 ≤ i → (∀ j : Nat, j < 880 → ft j = if 40 ≤ j ∧ (j : Int) < 40 + i then S12.1 8 (j - 40) else S12.1 3 j) → lv_pick lv ks = [(3, .int (iZ (i))), (0, .ref (ad 0)), (1, .int (iZ (kp))), (2, .int (iZ (n)))] → Z p l e (zRm 5) s m args below meth c 4 D 18 ad A 0 0 Q 201 lv [] (gM ad cI (fa S12 3 ft)) := by
                  intro kloopT
                  induction kloopT with
                  | zero =>
                    intro i ft lv ks e1loopT e2loopT f3 hlvloopT
                    refine z_sub ks hlvloopT ?_
                    refine z_iload_n X 0 rfl rfl dX4_letter_201 ?_
                    refine z_bipush X (n := 40) (by decide) dX4_letter_202 ?_
                    refine z_icmp_ge X (tgt := 228) (by omega) (by omega) dX4_letter_204 (by decide) (fun hb204 => ?_) (fun hb204 => absurd hb204 (by omega))
                    have O13 := zO_fa HU HA O12 (x := 3) (by decide) ft (a := ms_t ca * mp_C ca d9) (zbb_le btd (by omega) (by omega)) (fun j hj => by
                      rw [f3 j hj, mk_cf' HU HA (Nat.le_trans btd.2 (by omega)), ms_t_mul HA]
                      by_cases e : 40 ≤ j ∧ (j : Int) < 40 + i
                      · rw [if_pos e, if_pos (by omega), h8v _ (by omega), mp_C_cf HA, if_pos (by omega)]
                        exact congrArg (cu d9) (by omega)
                      · rw [if_neg e, zO_at O12 (x := 3) (by decide) _ hj, v12_3, mk_0 HU HA, mp_zero HU]
                        split
                        · rw [mp_C_cf HA]
                          split
                          · exact (mp_sz_out HU (by omega)).symm
                          · exact (mp_zero HU _).symm
                        · exact (mp_zero HU _).symm)
                    obtain ⟨S13, eS13⟩ : ∃ Sz, Sz = fa S12 3 ft := ⟨_, rfl⟩
                    rw [← eS13] at O13 ⊢
                    obtain ⟨F13, eF13⟩ : ∃ Fz, Fz = va_up F12 3 (ms_t ca * mp_C ca d9) := ⟨_, rfl⟩
                    rw [← eF13] at O13
                    have v13_3 : F13 3 = ms_t ca * mp_C ca d9 := by rw [eF13, va_up_self]
                    have v13_5 : F13 5 = (EL n).1 := (congrFun eF13 5).trans ((va_up_ne _ _ (by omega)).trans v12_5)
                    have v13_6 : F13 6 = (EL n).2 := (congrFun eF13 6).trans ((va_up_ne _ _ (by omega)).trans v12_6)
                    have v13_7 : F13 7 = md_x cu ca ((EL n).2) := (congrFun eF13 7).trans ((va_up_ne _ _ (by omega)).trans v12_7)
                    have v13_8 : F13 8 = ((md_x cu ca ((EL n).1)) * ((EL n).2)) - ((md_x cu ca ((EL n).2)) * ((EL n).1)) := (congrFun eF13 8).trans ((va_up_ne _ _ (by omega)).trans v12_8)
                    have v13_9 : F13 9 = (md_x cu ca ((EL n).2)) * ((EL n).1) := (congrFun eF13 9).trans ((va_up_ne _ _ (by omega)).trans v12_9)
                    clear eF13
                    refine z_aload_n X 1 rfl rfl dX4_letter_228 ?_
                    refine z_aload_n X 1 rfl rfl dX4_letter_229 ?_
                    refine z_get X zinX4 0 (by omega) gM_O (ci := 6) rfl 6 (by decide) (ref := "TowerFieldsModel") zw677 rfl rfl dX4_letter_230 ?_
                    refine z_aload_n X 1 rfl rfl dX4_letter_233 ?_
                    refine z_get X zinX4 0 (by omega) gM_O (ci := 6) rfl 8 (by decide) (ref := "TowerFieldsModel") zw679 rfl rfl dX4_letter_234 ?_
                    refine z_aload_n X 1 rfl rfl dX4_letter_237 ?_
                    refine z_get X zinX4 0 (by omega) gM_O (ci := 6) rfl 8 (by decide) (ref := "TowerFieldsModel") zw679 rfl rfl dX4_letter_238 ?_
                    have bd14 : zbb cu ca 1 13 (((EL n).2) * ((EL n).2)) := zbb_mul HU HA zB1 zB1 (by omega) (by omega)
                    refine z_callVv X zm_X4_multiply zw794 zp34 zw792 (zFit_of (by decide) (by decide)) [.ref (ad (4)), .ref (ad (6)), .ref (ad (6))] (q_multiply HU HA l O13 (x := 4) (y := 6) (z := 6) (by decide) (by decide) (by decide) (by omega) (by omega) (by rw [v13_6]; exact zB1) (by rw [v13_6]; exact zB1) (by omega) (by omega)) rfl rfl (Nat.le_of_ble_eq_true rfl) (by omega) gM_O (q := vwCl[6]) rfl rfl dX4_letter_241 (fun S14 O14 => ?_)
                    obtain ⟨F14, eF14⟩ : ∃ Fz, Fz = va_up F13 4 (F13 6 * F13 6) := ⟨_, rfl⟩
                    rw [← eF14] at O14
                    have v14_4 : F14 4 = ((EL n).2) * ((EL n).2) := by rw [eF14, va_up_self, v13_6]
                    have v14_5 : F14 5 = (EL n).1 := (congrFun eF14 5).trans ((va_up_ne _ _ (by omega)).trans v13_5)
                    have v14_6 : F14 6 = (EL n).2 := (congrFun eF14 6).trans ((va_up_ne _ _ (by omega)).trans v13_6)
                    have v14_7 : F14 7 = md_x cu ca ((EL n).2) := (congrFun eF14 7).trans ((va_up_ne _ _ (by omega)).trans v13_7)
                    have v14_8 : F14 8 = ((md_x cu ca ((EL n).1)) * ((EL n).2)) - ((md_x cu ca ((EL n).2)) * ((EL n).1)) := (congrFun eF14 8).trans ((va_up_ne _ _ (by omega)).trans v13_8)
                    have v14_9 : F14 9 = (md_x cu ca ((EL n).2)) * ((EL n).1) := (congrFun eF14 9).trans ((va_up_ne _ _ (by omega)).trans v13_9)
                    have v14_3 : F14 3 = ms_t ca * mp_C ca d9 := (congrFun eF14 3).trans ((va_up_ne _ _ (by omega)).trans v13_3)
                    clear eF14
                    refine z_aload_n X 1 rfl rfl dX4_letter_244 ?_
                    refine z_get X zinX4 0 (by omega) gM_O (ci := 6) rfl 12 (by decide) (ref := "TowerFieldsModel") zw683 rfl rfl dX4_letter_245 ?_
                    refine z_aload_n X 1 rfl rfl dX4_letter_248 ?_
                    refine z_get X zinX4 0 (by omega) gM_O (ci := 6) rfl 5 (by decide) (ref := "TowerFieldsModel") zw676 rfl rfl dX4_letter_249 ?_
                    refine z_callSv X zm_X4_copy zw806 zw805 (zFit_of (by decide) (by decide)) [.ref (ad (10)), .ref (ad (3))] (q_copy HU HA l O14 (x := 10) (y := 3) (by decide) (by decide) (by omega)) rfl rfl (Nat.le_of_ble_eq_true rfl) dX4_letter_252 (fun S15 O15 => ?_)
                    obtain ⟨F15, eF15⟩ : ∃ Fz, Fz = va_up F14 10 (F14 3) := ⟨_, rfl⟩
                    rw [← eF15] at O15
                    have v15_10 : F15 10 = ms_t ca * mp_C ca d9 := by rw [eF15, va_up_self, v14_3]
                    have v15_5 : F15 5 = (EL n).1 := (congrFun eF15 5).trans ((va_up_ne _ _ (by omega)).trans v14_5)
                    have v15_6 : F15 6 = (EL n).2 := (congrFun eF15 6).trans ((va_up_ne _ _ (by omega)).trans v14_6)
                    have v15_7 : F15 7 = md_x cu ca ((EL n).2) := (congrFun eF15 7).trans ((va_up_ne _ _ (by omega)).trans v14_7)
                    have v15_8 : F15 8 = ((md_x cu ca ((EL n).1)) * ((EL n).2)) - ((md_x cu ca ((EL n).2)) * ((EL n).1)) := (congrFun eF15 8).trans ((va_up_ne _ _ (by omega)).trans v14_8)
                    have v15_9 : F15 9 = (md_x cu ca ((EL n).2)) * ((EL n).1) := (congrFun eF15 9).trans ((va_up_ne _ _ (by omega)).trans v14_9)
                    have v15_3 : F15 3 = ms_t ca * mp_C ca d9 := (congrFun eF15 3).trans ((va_up_ne _ _ (by omega)).trans v14_3)
                    have v15_4 : F15 4 = ((EL n).2) * ((EL n).2) := (congrFun eF15 4).trans ((va_up_ne _ _ (by omega)).trans v14_4)
                    clear eF15
                    refine z_aload_n X 1 rfl rfl dX4_letter_255 ?_
                    refine z_get X zinX4 0 (by omega) gM_O (ci := 6) rfl 13 (by decide) (ref := "TowerFieldsModel") zw684 rfl rfl dX4_letter_256 ?_
                    refine z_aload_n X 1 rfl rfl dX4_letter_259 ?_
                    refine z_get X zinX4 0 (by omega) gM_O (ci := 6) rfl 6 (by decide) (ref := "TowerFieldsModel") zw677 rfl rfl dX4_letter_260 ?_
                    refine z_callSv X zm_X4_copy zw806 zw805 (zFit_of (by decide) (by decide)) [.ref (ad (11)), .ref (ad (4))] (q_copy HU HA l O15 (x := 11) (y := 4) (by decide) (by decide) (by omega)) rfl rfl (Nat.le_of_ble_eq_true rfl) dX4_letter_263 (fun S16 O16 => ?_)
                    obtain ⟨F16, eF16⟩ : ∃ Fz, Fz = va_up F15 11 (F15 4) := ⟨_, rfl⟩
                    rw [← eF16] at O16
                    have v16_11 : F16 11 = ((EL n).2) * ((EL n).2) := by rw [eF16, va_up_self, v15_4]
                    have v16_5 : F16 5 = (EL n).1 := (congrFun eF16 5).trans ((va_up_ne _ _ (by omega)).trans v15_5)
                    have v16_6 : F16 6 = (EL n).2 := (congrFun eF16 6).trans ((va_up_ne _ _ (by omega)).trans v15_6)
                    have v16_7 : F16 7 = md_x cu ca ((EL n).2) := (congrFun eF16 7).trans ((va_up_ne _ _ (by omega)).trans v15_7)
                    have v16_8 : F16 8 = ((md_x cu ca ((EL n).1)) * ((EL n).2)) - ((md_x cu ca ((EL n).2)) * ((EL n).1)) := (congrFun eF16 8).trans ((va_up_ne _ _ (by omega)).trans v15_8)
                    have v16_9 : F16 9 = (md_x cu ca ((EL n).2)) * ((EL n).1) := (congrFun eF16 9).trans ((va_up_ne _ _ (by omega)).trans v15_9)
                    have v16_3 : F16 3 = ms_t ca * mp_C ca d9 := (congrFun eF16 3).trans ((va_up_ne _ _ (by omega)).trans v15_3)
                    have v16_4 : F16 4 = ((EL n).2) * ((EL n).2) := (congrFun eF16 4).trans ((va_up_ne _ _ (by omega)).trans v15_4)
                    have v16_10 : F16 10 = ms_t ca * mp_C ca d9 := (congrFun eF16 10).trans ((va_up_ne _ _ (by omega)).trans v15_10)
                    clear eF16
                    refine z_aload_n X 1 rfl rfl dX4_letter_266 ?_
                    have hAd := mp_dom HA (mp_dom HU (mp_Fd_nz mp_FP))
                    have hden0 : ((EL n).2) * ((EL n).2) ≠ 0 := mp_nz_mul hAd hnz1 hnz1
                    have hW0 : ms_t ca * mp_C ca d9 ≠ 0 := (mp_nz_mul hAd (fun q => by have := ms_t_sz HA (mp_dom HU (mp_Fd_nz mp_FP)); rw [q] at this; have := (mp_sz_0 HA (a := (0 : V))).mpr rfl; omega) (by rw [← hDlow]; exact hDD))
                    have bW0 : zbb cu ca 2 13 (ms_t ca * mp_C ca d9) := zbb_le btd (by omega) (by omega)
                    have bD0 : zbb cu ca 1 13 (((EL n).2) * ((EL n).2)) := zbb_le bd14 (by omega) (by omega)
                    refine z_callVi X zm_X4_reduce zw810 zp35 zw808 (zFit_of (by decide) (by decide)) [] (q_reduce HU HA l O16 (by rw [v16_11]; exact hden0) (by rw [v16_10]; exact zbb_le bW0 (by omega) (by omega)) (by rw [v16_11]; exact zbb_le bD0 (by omega) (by omega))) rfl rfl (Nat.le_of_ble_eq_true rfl) (by omega) gM_O (q := vwCl[6]) rfl rfl dX4_letter_267 (fun z17 S17 hz17 => ?_)
                    rw [v16_10, v16_11] at hz17
                    have hy17 : z17 = 0 ∨ z17 = 1 := hz17.elim (fun q => Or.inr q.1) (fun q => Or.inl q.1)
                    refine z_if_eq X (tgt := 295) (by omega) dX4_letter_270 (by decide) (fun hb270 => ?_) (fun hb270 => ?_)
                    · have O17 : zO cu ca F16 (T.1, T.2.1, 0, T.2.2.2.1, kp) S17 := by
                        rcases hz17 with q | q
                        · exact absurd q.1 (by omega)
                        · exact q.2.2
                      have hrel : (ms_t ca * mp_C ca d9) * (((EL n).2) * ((EL n).2)) = (ms_t ca * mp_C ca d9) * (((EL n).2) * ((EL n).2)) := rfl
                      refine z_aload_n X 1 rfl rfl dX4_letter_295 ?_
                      have G18 : mG cu ca EL md kp (ms_t ca * mp_C ca d9) (((EL n).2) * ((EL n).2)) 0 F16 (T.1, T.2.1, 0, T.2.2.2.1, kp) := ⟨hG.1, rfl, hG.2.2.1, rfl, fun _ => ⟨v16_3, v16_4⟩⟩
                      have hS18 : mSl cu ca kp (ms_t ca * mp_C ca d9) (((EL n).2) * ((EL n).2)) ∧ (0 ≤ kp ∧ kp ≤ 2) := ⟨fun _ => ⟨bW0, bD0, hden0⟩, by omega⟩
                      refine z_callVi X zm_X4_letterItself zw822 zp38 zw820 (zFit_of (by decide) (by decide)) [] (q_letterItself HU HA l O17 G18 hS18 hlt) rfl rfl (Nat.le_of_ble_eq_true rfl) (by omega) gM_O (q := vwCl[6]) rfl rfl dX4_letter_296 (fun z18 S18 hz18 => ?_)
                      exact E S18 (Or.inr (Or.inr (Or.inr ⟨hd1, hlt, hk0, hkp3, ⟨la, lb⟩, hDD, hz18.1, _, _, hz18.2, by rw [if_neg (by omega), if_neg (by omega), hDlow] <;> exact hrel⟩))) rfl dX4_letter_299
                    · obtain ⟨pp, qq, ⟨gg, g1, g2, g3, g4⟩, hbp, hbq, O17⟩ : ∃ p q, zLow cu ca (ms_t ca * mp_C ca d9) (((EL n).2) * ((EL n).2)) p q ∧ mk_box cu ca p ∧ mk_box cu ca q ∧ zO cu ca (va_up (va_up F16 10 p) 11 q) (T.1, T.2.1, 0, T.2.2.2.1, kp) S17 := by
                        rcases hz17 with q | q
                        · exact q.2
                        · exact absurd q.1 (by omega)
                      obtain ⟨F17, eF17⟩ : ∃ Fz, Fz = va_up (va_up F16 10 pp) 11 qq := ⟨_, rfl⟩
                      rw [← eF17] at O17
                      have v17_10 : F17 10 = pp := by rw [eF17, va_up_ne _ _ (by omega), va_up_self]
                      have v17_11 : F17 11 = qq := by rw [eF17, va_up_self]
                      have bpp : zbb cu ca 2 13 pp := mz_Dbox HU HA ⟨gg, by rw [g1]; grind⟩ hW0 bW0
                      have bqq : zbb cu ca 1 13 qq := mz_Dbox HU HA ⟨gg, by rw [g2]; grind⟩ hden0 bD0
                      have hq0 : qq ≠ 0 := fun q => hden0 (by rw [g2, q]; grind)
                      have hrel : pp * (((EL n).2) * ((EL n).2)) = (ms_t ca * mp_C ca d9) * qq := by rw [g1, g2]; grind
                      refine z_aload_n X 1 rfl rfl dX4_letter_273 ?_
                      refine z_get X zinX4 0 (by omega) gM_O (ci := 6) rfl 5 (by decide) (ref := "TowerFieldsModel") zw676 rfl rfl dX4_letter_274 ?_
                      refine z_aload_n X 1 rfl rfl dX4_letter_277 ?_
                      refine z_get X zinX4 0 (by omega) gM_O (ci := 6) rfl 12 (by decide) (ref := "TowerFieldsModel") zw683 rfl rfl dX4_letter_278 ?_
                      refine z_callSv X zm_X4_copy zw806 zw805 (zFit_of (by decide) (by decide)) [.ref (ad (3)), .ref (ad (10))] (q_copy HU HA l O17 (x := 3) (y := 10) (by decide) (by decide) (by omega)) rfl rfl (Nat.le_of_ble_eq_true rfl) dX4_letter_281 (fun S19 O19 => ?_)
                      obtain ⟨F19, eF19⟩ : ∃ Fz, Fz = va_up F17 3 (F17 10) := ⟨_, rfl⟩
                      rw [← eF19] at O19
                      have v19_3 : F19 3 = pp := by rw [eF19, va_up_self, v17_10]
                      have v19_10 : F19 10 = pp := (congrFun eF19 10).trans ((va_up_ne _ _ (by omega)).trans v17_10)
                      have v19_11 : F19 11 = qq := (congrFun eF19 11).trans ((va_up_ne _ _ (by omega)).trans v17_11)
                      clear eF19
                      refine z_aload_n X 1 rfl rfl dX4_letter_284 ?_
                      refine z_get X zinX4 0 (by omega) gM_O (ci := 6) rfl 6 (by decide) (ref := "TowerFieldsModel") zw677 rfl rfl dX4_letter_285 ?_
                      refine z_aload_n X 1 rfl rfl dX4_letter_288 ?_
                      refine z_get X zinX4 0 (by omega) gM_O (ci := 6) rfl 13 (by decide) (ref := "TowerFieldsModel") zw684 rfl rfl dX4_letter_289 ?_
                      refine z_callSv X zm_X4_copy zw806 zw805 (zFit_of (by decide) (by decide)) [.ref (ad (4)), .ref (ad (11))] (q_copy HU HA l O19 (x := 4) (y := 11) (by decide) (by decide) (by omega)) rfl rfl (Nat.le_of_ble_eq_true rfl) dX4_letter_292 (fun S20 O20 => ?_)
                      obtain ⟨F20, eF20⟩ : ∃ Fz, Fz = va_up F19 4 (F19 11) := ⟨_, rfl⟩
                      rw [← eF20] at O20
                      have v20_4 : F20 4 = qq := by rw [eF20, va_up_self, v19_11]
                      have v20_10 : F20 10 = pp := (congrFun eF20 10).trans ((va_up_ne _ _ (by omega)).trans v19_10)
                      have v20_11 : F20 11 = qq := (congrFun eF20 11).trans ((va_up_ne _ _ (by omega)).trans v19_11)
                      have v20_3 : F20 3 = pp := (congrFun eF20 3).trans ((va_up_ne _ _ (by omega)).trans v19_3)
                      clear eF20
                      refine z_aload_n X 1 rfl rfl dX4_letter_295 ?_
                      have G21 : mG cu ca EL md kp (pp) (qq) 0 F20 (T.1, T.2.1, 0, T.2.2.2.1, kp) := ⟨hG.1, rfl, hG.2.2.1, rfl, fun _ => ⟨v20_3, v20_4⟩⟩
                      have hS21 : mSl cu ca kp (pp) (qq) ∧ (0 ≤ kp ∧ kp ≤ 2) := ⟨fun _ => ⟨bpp, bqq, hq0⟩, by omega⟩
                      refine z_callVi X zm_X4_letterItself zw822 zp38 zw820 (zFit_of (by decide) (by decide)) [] (q_letterItself HU HA l O20 G21 hS21 hlt) rfl rfl (Nat.le_of_ble_eq_true rfl) (by omega) gM_O (q := vwCl[6]) rfl rfl dX4_letter_296 (fun z21 S21 hz21 => ?_)
                      exact E S21 (Or.inr (Or.inr (Or.inr ⟨hd1, hlt, hk0, hkp3, ⟨la, lb⟩, hDD, hz21.1, _, _, hz21.2, by rw [if_neg (by omega), if_neg (by omega), hDlow] <;> exact hrel⟩))) rfl dX4_letter_299
                  | succ kloopT ihloopT =>
                    intro i ft lv ks e1loopT e2loopT f3 hlvloopT
                    refine z_sub ks hlvloopT ?_
                    refine z_iload_n X 0 rfl rfl dX4_letter_201 ?_
                    refine z_bipush X (n := 40) (by decide) dX4_letter_202 ?_
                    refine z_icmp_ge X (tgt := 228) (by omega) (by omega) dX4_letter_204 (by decide) (fun hb204 => absurd hb204 (by omega)) (fun hb204 => ?_)
                    refine z_aload_n X 1 rfl rfl dX4_letter_207 ?_
                    refine z_get X zinX4 0 (by omega) gM_O (ci := 6) rfl 5 (by decide) (ref := "TowerFieldsModel") zw676 rfl rfl dX4_letter_208 ?_
                    refine z_bipush X (n := 40) (by decide) dX4_letter_211 ?_
                    refine z_iload_n X 0 rfl rfl dX4_letter_213 ?_
                    refine z_iadd X dX4_letter_214 ?_
                    refine z_aload_n X 1 rfl rfl dX4_letter_215 ?_
                    refine z_get X zinX4 0 (by omega) gM_O (ci := 6) rfl 10 (by decide) (ref := "TowerFieldsModel") zw681 rfl rfl dX4_letter_216 ?_
                    refine z_iload_n X 0 rfl rfl dX4_letter_219 ?_
                    refine zn_ld X (by decide) 880 rfl (by omega) (by omega) (S12.1 8 (i).toNat) (by rw [fa_ne _ _ (by omega)]) dX4_letter_220 ?_
                    refine zn_st X (by decide) 880 rfl (by omega) (by omega) (S12.1 8 (i).toNat) rfl (fa S12 3 ((va_up ft (40 + i).toNat (S12.1 8 (i).toNat)))) (fa_st _ _ _ _ _) dX4_letter_221 ?_
                    refine z_iinc X [(3, .int (iZ (i + 1))), (0, .ref (ad 0)), (1, .int (iZ (kp))), (2, .int (iZ (n)))] 0 rfl rfl (by decide) dX4_letter_222 ?_
                    refine z_goto X (tgt := 201) dX4_letter_225 (by decide) ?_
                    refine ihloopT (i + 1) _ _ [0, 1, 2, 3] (by omega) (by omega) (fun j hj => ?_) rfl
                    by_cases e : j = (40 + i).toNat
                    · rw [e, va_up_self, if_pos ⟨by omega, by omega⟩]
                      exact congrArg (S12.1 8) (by omega)
                    · rw [va_up_ne _ _ e, f3 j hj]
                      by_cases e2 : 40 ≤ j ∧ (j : Int) < 40 + i
                      · rw [if_pos e2, if_pos ⟨e2.1, by omega⟩]
                      · rw [if_neg e2, if_neg (fun q => e2 ⟨q.1, by omega⟩)]
                exact loopT 40 (0) (S12.1 3) _ [0, 1, 2, 3] (by omega) (by omega) (fun j hj => by rw [if_neg (fun q => by omega)]) rfl
              · refine z_aload_n X 0 rfl rfl dX4_letter_169 ?_
                refine z_get X zinX4 0 (by omega) gM_O (ci := 6) rfl 5 (by decide) (ref := "TowerFieldsModel") zw676 rfl rfl dX4_letter_170 ?_
                refine z_aload_n X 0 rfl rfl dX4_letter_173 ?_
                refine z_get X zinX4 0 (by omega) gM_O (ci := 6) rfl 10 (by decide) (ref := "TowerFieldsModel") zw681 rfl rfl dX4_letter_174 ?_
                refine z_callSv X zm_X4_copy zw806 zw805 (zFit_of (by decide) (by decide)) [.ref (ad (3)), .ref (ad (8))] (q_copy HU HA l O12 (x := 3) (y := 8) (by decide) (by decide) (by omega)) rfl rfl (Nat.le_of_ble_eq_true rfl) dX4_letter_177 (fun S22 O22 => ?_)
                obtain ⟨F22, eF22⟩ : ∃ Fz, Fz = va_up F12 3 (F12 8) := ⟨_, rfl⟩
                rw [← eF22] at O22
                have v22_3 : F22 3 = ((md_x cu ca ((EL n).1)) * ((EL n).2)) - ((md_x cu ca ((EL n).2)) * ((EL n).1)) := by rw [eF22, va_up_self, v12_8]
                have v22_5 : F22 5 = (EL n).1 := (congrFun eF22 5).trans ((va_up_ne _ _ (by omega)).trans v12_5)
                have v22_6 : F22 6 = (EL n).2 := (congrFun eF22 6).trans ((va_up_ne _ _ (by omega)).trans v12_6)
                have v22_7 : F22 7 = md_x cu ca ((EL n).2) := (congrFun eF22 7).trans ((va_up_ne _ _ (by omega)).trans v12_7)
                have v22_8 : F22 8 = ((md_x cu ca ((EL n).1)) * ((EL n).2)) - ((md_x cu ca ((EL n).2)) * ((EL n).1)) := (congrFun eF22 8).trans ((va_up_ne _ _ (by omega)).trans v12_8)
                have v22_9 : F22 9 = (md_x cu ca ((EL n).2)) * ((EL n).1) := (congrFun eF22 9).trans ((va_up_ne _ _ (by omega)).trans v12_9)
                clear eF22
                refine z_aload_n X 0 rfl rfl dX4_letter_180 ?_
                refine z_aload_n X 0 rfl rfl dX4_letter_181 ?_
                refine z_get X zinX4 0 (by omega) gM_O (ci := 6) rfl 6 (by decide) (ref := "TowerFieldsModel") zw677 rfl rfl dX4_letter_182 ?_
                refine z_aload_n X 0 rfl rfl dX4_letter_185 ?_
                refine z_get X zinX4 0 (by omega) gM_O (ci := 6) rfl 7 (by decide) (ref := "TowerFieldsModel") zw678 rfl rfl dX4_letter_186 ?_
                refine z_aload_n X 0 rfl rfl dX4_letter_189 ?_
                refine z_get X zinX4 0 (by omega) gM_O (ci := 6) rfl 8 (by decide) (ref := "TowerFieldsModel") zw679 rfl rfl dX4_letter_190 ?_
                have bd23 : zbb cu ca 1 13 (((EL n).1) * ((EL n).2)) := zbb_mul HU HA zA1 zB1 (by omega) (by omega)
                refine z_callVv X zm_X4_multiply zw794 zp34 zw792 (zFit_of (by decide) (by decide)) [.ref (ad (4)), .ref (ad (5)), .ref (ad (6))] (q_multiply HU HA l O22 (x := 4) (y := 5) (z := 6) (by decide) (by decide) (by decide) (by omega) (by omega) (by rw [v22_5]; exact zA1) (by rw [v22_6]; exact zB1) (by omega) (by omega)) rfl rfl (Nat.le_of_ble_eq_true rfl) (by omega) gM_O (q := vwCl[6]) rfl rfl dX4_letter_193 (fun S23 O23 => ?_)
                obtain ⟨F23, eF23⟩ : ∃ Fz, Fz = va_up F22 4 (F22 5 * F22 6) := ⟨_, rfl⟩
                rw [← eF23] at O23
                have v23_4 : F23 4 = ((EL n).1) * ((EL n).2) := by rw [eF23, va_up_self, v22_5, v22_6]
                have v23_5 : F23 5 = (EL n).1 := (congrFun eF23 5).trans ((va_up_ne _ _ (by omega)).trans v22_5)
                have v23_6 : F23 6 = (EL n).2 := (congrFun eF23 6).trans ((va_up_ne _ _ (by omega)).trans v22_6)
                have v23_7 : F23 7 = md_x cu ca ((EL n).2) := (congrFun eF23 7).trans ((va_up_ne _ _ (by omega)).trans v22_7)
                have v23_8 : F23 8 = ((md_x cu ca ((EL n).1)) * ((EL n).2)) - ((md_x cu ca ((EL n).2)) * ((EL n).1)) := (congrFun eF23 8).trans ((va_up_ne _ _ (by omega)).trans v22_8)
                have v23_9 : F23 9 = (md_x cu ca ((EL n).2)) * ((EL n).1) := (congrFun eF23 9).trans ((va_up_ne _ _ (by omega)).trans v22_9)
                have v23_3 : F23 3 = ((md_x cu ca ((EL n).1)) * ((EL n).2)) - ((md_x cu ca ((EL n).2)) * ((EL n).1)) := (congrFun eF23 3).trans ((va_up_ne _ _ (by omega)).trans v22_3)
                clear eF23
                refine z_goto X (tgt := 244) dX4_letter_196 (by decide) ?_
                refine z_aload_n X 0 rfl rfl dX4_letter_244 ?_
                refine z_get X zinX4 0 (by omega) gM_O (ci := 6) rfl 12 (by decide) (ref := "TowerFieldsModel") zw683 rfl rfl dX4_letter_245 ?_
                refine z_aload_n X 0 rfl rfl dX4_letter_248 ?_
                refine z_get X zinX4 0 (by omega) gM_O (ci := 6) rfl 5 (by decide) (ref := "TowerFieldsModel") zw676 rfl rfl dX4_letter_249 ?_
                refine z_callSv X zm_X4_copy zw806 zw805 (zFit_of (by decide) (by decide)) [.ref (ad (10)), .ref (ad (3))] (q_copy HU HA l O23 (x := 10) (y := 3) (by decide) (by decide) (by omega)) rfl rfl (Nat.le_of_ble_eq_true rfl) dX4_letter_252 (fun S24 O24 => ?_)
                obtain ⟨F24, eF24⟩ : ∃ Fz, Fz = va_up F23 10 (F23 3) := ⟨_, rfl⟩
                rw [← eF24] at O24
                have v24_10 : F24 10 = ((md_x cu ca ((EL n).1)) * ((EL n).2)) - ((md_x cu ca ((EL n).2)) * ((EL n).1)) := by rw [eF24, va_up_self, v23_3]
                have v24_5 : F24 5 = (EL n).1 := (congrFun eF24 5).trans ((va_up_ne _ _ (by omega)).trans v23_5)
                have v24_6 : F24 6 = (EL n).2 := (congrFun eF24 6).trans ((va_up_ne _ _ (by omega)).trans v23_6)
                have v24_7 : F24 7 = md_x cu ca ((EL n).2) := (congrFun eF24 7).trans ((va_up_ne _ _ (by omega)).trans v23_7)
                have v24_8 : F24 8 = ((md_x cu ca ((EL n).1)) * ((EL n).2)) - ((md_x cu ca ((EL n).2)) * ((EL n).1)) := (congrFun eF24 8).trans ((va_up_ne _ _ (by omega)).trans v23_8)
                have v24_9 : F24 9 = (md_x cu ca ((EL n).2)) * ((EL n).1) := (congrFun eF24 9).trans ((va_up_ne _ _ (by omega)).trans v23_9)
                have v24_3 : F24 3 = ((md_x cu ca ((EL n).1)) * ((EL n).2)) - ((md_x cu ca ((EL n).2)) * ((EL n).1)) := (congrFun eF24 3).trans ((va_up_ne _ _ (by omega)).trans v23_3)
                have v24_4 : F24 4 = ((EL n).1) * ((EL n).2) := (congrFun eF24 4).trans ((va_up_ne _ _ (by omega)).trans v23_4)
                clear eF24
                refine z_aload_n X 0 rfl rfl dX4_letter_255 ?_
                refine z_get X zinX4 0 (by omega) gM_O (ci := 6) rfl 13 (by decide) (ref := "TowerFieldsModel") zw684 rfl rfl dX4_letter_256 ?_
                refine z_aload_n X 0 rfl rfl dX4_letter_259 ?_
                refine z_get X zinX4 0 (by omega) gM_O (ci := 6) rfl 6 (by decide) (ref := "TowerFieldsModel") zw677 rfl rfl dX4_letter_260 ?_
                refine z_callSv X zm_X4_copy zw806 zw805 (zFit_of (by decide) (by decide)) [.ref (ad (11)), .ref (ad (4))] (q_copy HU HA l O24 (x := 11) (y := 4) (by decide) (by decide) (by omega)) rfl rfl (Nat.le_of_ble_eq_true rfl) dX4_letter_263 (fun S25 O25 => ?_)
                obtain ⟨F25, eF25⟩ : ∃ Fz, Fz = va_up F24 11 (F24 4) := ⟨_, rfl⟩
                rw [← eF25] at O25
                have v25_11 : F25 11 = ((EL n).1) * ((EL n).2) := by rw [eF25, va_up_self, v24_4]
                have v25_5 : F25 5 = (EL n).1 := (congrFun eF25 5).trans ((va_up_ne _ _ (by omega)).trans v24_5)
                have v25_6 : F25 6 = (EL n).2 := (congrFun eF25 6).trans ((va_up_ne _ _ (by omega)).trans v24_6)
                have v25_7 : F25 7 = md_x cu ca ((EL n).2) := (congrFun eF25 7).trans ((va_up_ne _ _ (by omega)).trans v24_7)
                have v25_8 : F25 8 = ((md_x cu ca ((EL n).1)) * ((EL n).2)) - ((md_x cu ca ((EL n).2)) * ((EL n).1)) := (congrFun eF25 8).trans ((va_up_ne _ _ (by omega)).trans v24_8)
                have v25_9 : F25 9 = (md_x cu ca ((EL n).2)) * ((EL n).1) := (congrFun eF25 9).trans ((va_up_ne _ _ (by omega)).trans v24_9)
                have v25_3 : F25 3 = ((md_x cu ca ((EL n).1)) * ((EL n).2)) - ((md_x cu ca ((EL n).2)) * ((EL n).1)) := (congrFun eF25 3).trans ((va_up_ne _ _ (by omega)).trans v24_3)
                have v25_4 : F25 4 = ((EL n).1) * ((EL n).2) := (congrFun eF25 4).trans ((va_up_ne _ _ (by omega)).trans v24_4)
                have v25_10 : F25 10 = ((md_x cu ca ((EL n).1)) * ((EL n).2)) - ((md_x cu ca ((EL n).2)) * ((EL n).1)) := (congrFun eF25 10).trans ((va_up_ne _ _ (by omega)).trans v24_10)
                clear eF25
                refine z_aload_n X 0 rfl rfl dX4_letter_266 ?_
                have hAd := mp_dom HA (mp_dom HU (mp_Fd_nz mp_FP))
                have hden0 : ((EL n).1) * ((EL n).2) ≠ 0 := mp_nz_mul hAd (fun q => hDD (by have q9 : md_x cu ca (0 : V) = 0 := mp_ext HA (fun r => by rw [md_x_cf HU HA, mp_zero HA, md_0 HU]); rw [q, q9]; grind)) hnz1
                have hW0 : ((md_x cu ca ((EL n).1)) * ((EL n).2)) - ((md_x cu ca ((EL n).2)) * ((EL n).1)) ≠ 0 := hDD
                have bW0 : zbb cu ca 2 13 (((md_x cu ca ((EL n).1)) * ((EL n).2)) - ((md_x cu ca ((EL n).2)) * ((EL n).1))) := zbb_le bd9 (by omega) (by omega)
                have bD0 : zbb cu ca 1 13 (((EL n).1) * ((EL n).2)) := zbb_le bd23 (by omega) (by omega)
                refine z_callVi X zm_X4_reduce zw810 zp35 zw808 (zFit_of (by decide) (by decide)) [] (q_reduce HU HA l O25 (by rw [v25_11]; exact hden0) (by rw [v25_10]; exact zbb_le bW0 (by omega) (by omega)) (by rw [v25_11]; exact zbb_le bD0 (by omega) (by omega))) rfl rfl (Nat.le_of_ble_eq_true rfl) (by omega) gM_O (q := vwCl[6]) rfl rfl dX4_letter_267 (fun z26 S26 hz26 => ?_)
                rw [v25_10, v25_11] at hz26
                have hy26 : z26 = 0 ∨ z26 = 1 := hz26.elim (fun q => Or.inr q.1) (fun q => Or.inl q.1)
                refine z_if_eq X (tgt := 295) (by omega) dX4_letter_270 (by decide) (fun hb270 => ?_) (fun hb270 => ?_)
                · have O26 : zO cu ca F25 (T.1, T.2.1, 0, T.2.2.2.1, kp) S26 := by
                    rcases hz26 with q | q
                    · exact absurd q.1 (by omega)
                    · exact q.2.2
                  have hrel : (((md_x cu ca ((EL n).1)) * ((EL n).2)) - ((md_x cu ca ((EL n).2)) * ((EL n).1))) * (((EL n).1) * ((EL n).2)) = (((md_x cu ca ((EL n).1)) * ((EL n).2)) - ((md_x cu ca ((EL n).2)) * ((EL n).1))) * (((EL n).1) * ((EL n).2)) := rfl
                  refine z_aload_n X 0 rfl rfl dX4_letter_295 ?_
                  have G27 : mG cu ca EL md kp (((md_x cu ca ((EL n).1)) * ((EL n).2)) - ((md_x cu ca ((EL n).2)) * ((EL n).1))) (((EL n).1) * ((EL n).2)) 0 F25 (T.1, T.2.1, 0, T.2.2.2.1, kp) := ⟨hG.1, rfl, hG.2.2.1, rfl, fun _ => ⟨v25_3, v25_4⟩⟩
                  have hS27 : mSl cu ca kp (((md_x cu ca ((EL n).1)) * ((EL n).2)) - ((md_x cu ca ((EL n).2)) * ((EL n).1))) (((EL n).1) * ((EL n).2)) ∧ (0 ≤ kp ∧ kp ≤ 2) := ⟨fun _ => ⟨bW0, bD0, hden0⟩, by omega⟩
                  refine z_callVi X zm_X4_letterItself zw822 zp38 zw820 (zFit_of (by decide) (by decide)) [] (q_letterItself HU HA l O26 G27 hS27 hlt) rfl rfl (Nat.le_of_ble_eq_true rfl) (by omega) gM_O (q := vwCl[6]) rfl rfl dX4_letter_296 (fun z27 S27 hz27 => ?_)
                  exact E S27 (Or.inr (Or.inr (Or.inr ⟨hd1, hlt, hk0, hkp3, ⟨la, lb⟩, hDD, hz27.1, _, _, hz27.2, by rw [if_pos (by omega), if_pos (by omega)] <;> exact hrel⟩))) rfl dX4_letter_299
                · obtain ⟨pp, qq, ⟨gg, g1, g2, g3, g4⟩, hbp, hbq, O26⟩ : ∃ p q, zLow cu ca (((md_x cu ca ((EL n).1)) * ((EL n).2)) - ((md_x cu ca ((EL n).2)) * ((EL n).1))) (((EL n).1) * ((EL n).2)) p q ∧ mk_box cu ca p ∧ mk_box cu ca q ∧ zO cu ca (va_up (va_up F25 10 p) 11 q) (T.1, T.2.1, 0, T.2.2.2.1, kp) S26 := by
                    rcases hz26 with q | q
                    · exact q.2
                    · exact absurd q.1 (by omega)
                  obtain ⟨F26, eF26⟩ : ∃ Fz, Fz = va_up (va_up F25 10 pp) 11 qq := ⟨_, rfl⟩
                  rw [← eF26] at O26
                  have v26_10 : F26 10 = pp := by rw [eF26, va_up_ne _ _ (by omega), va_up_self]
                  have v26_11 : F26 11 = qq := by rw [eF26, va_up_self]
                  have bpp : zbb cu ca 2 13 pp := mz_Dbox HU HA ⟨gg, by rw [g1]; grind⟩ hW0 bW0
                  have bqq : zbb cu ca 1 13 qq := mz_Dbox HU HA ⟨gg, by rw [g2]; grind⟩ hden0 bD0
                  have hq0 : qq ≠ 0 := fun q => hden0 (by rw [g2, q]; grind)
                  have hrel : pp * (((EL n).1) * ((EL n).2)) = (((md_x cu ca ((EL n).1)) * ((EL n).2)) - ((md_x cu ca ((EL n).2)) * ((EL n).1))) * qq := by rw [g1, g2]; grind
                  refine z_aload_n X 0 rfl rfl dX4_letter_273 ?_
                  refine z_get X zinX4 0 (by omega) gM_O (ci := 6) rfl 5 (by decide) (ref := "TowerFieldsModel") zw676 rfl rfl dX4_letter_274 ?_
                  refine z_aload_n X 0 rfl rfl dX4_letter_277 ?_
                  refine z_get X zinX4 0 (by omega) gM_O (ci := 6) rfl 12 (by decide) (ref := "TowerFieldsModel") zw683 rfl rfl dX4_letter_278 ?_
                  refine z_callSv X zm_X4_copy zw806 zw805 (zFit_of (by decide) (by decide)) [.ref (ad (3)), .ref (ad (10))] (q_copy HU HA l O26 (x := 3) (y := 10) (by decide) (by decide) (by omega)) rfl rfl (Nat.le_of_ble_eq_true rfl) dX4_letter_281 (fun S28 O28 => ?_)
                  obtain ⟨F28, eF28⟩ : ∃ Fz, Fz = va_up F26 3 (F26 10) := ⟨_, rfl⟩
                  rw [← eF28] at O28
                  have v28_3 : F28 3 = pp := by rw [eF28, va_up_self, v26_10]
                  have v28_10 : F28 10 = pp := (congrFun eF28 10).trans ((va_up_ne _ _ (by omega)).trans v26_10)
                  have v28_11 : F28 11 = qq := (congrFun eF28 11).trans ((va_up_ne _ _ (by omega)).trans v26_11)
                  clear eF28
                  refine z_aload_n X 0 rfl rfl dX4_letter_284 ?_
                  refine z_get X zinX4 0 (by omega) gM_O (ci := 6) rfl 6 (by decide) (ref := "TowerFieldsModel") zw677 rfl rfl dX4_letter_285 ?_
                  refine z_aload_n X 0 rfl rfl dX4_letter_288 ?_
                  refine z_get X zinX4 0 (by omega) gM_O (ci := 6) rfl 13 (by decide) (ref := "TowerFieldsModel") zw684 rfl rfl dX4_letter_289 ?_
                  refine z_callSv X zm_X4_copy zw806 zw805 (zFit_of (by decide) (by decide)) [.ref (ad (4)), .ref (ad (11))] (q_copy HU HA l O28 (x := 4) (y := 11) (by decide) (by decide) (by omega)) rfl rfl (Nat.le_of_ble_eq_true rfl) dX4_letter_292 (fun S29 O29 => ?_)
                  obtain ⟨F29, eF29⟩ : ∃ Fz, Fz = va_up F28 4 (F28 11) := ⟨_, rfl⟩
                  rw [← eF29] at O29
                  have v29_4 : F29 4 = qq := by rw [eF29, va_up_self, v28_11]
                  have v29_10 : F29 10 = pp := (congrFun eF29 10).trans ((va_up_ne _ _ (by omega)).trans v28_10)
                  have v29_11 : F29 11 = qq := (congrFun eF29 11).trans ((va_up_ne _ _ (by omega)).trans v28_11)
                  have v29_3 : F29 3 = pp := (congrFun eF29 3).trans ((va_up_ne _ _ (by omega)).trans v28_3)
                  clear eF29
                  refine z_aload_n X 0 rfl rfl dX4_letter_295 ?_
                  have G30 : mG cu ca EL md kp (pp) (qq) 0 F29 (T.1, T.2.1, 0, T.2.2.2.1, kp) := ⟨hG.1, rfl, hG.2.2.1, rfl, fun _ => ⟨v29_3, v29_4⟩⟩
                  have hS30 : mSl cu ca kp (pp) (qq) ∧ (0 ≤ kp ∧ kp ≤ 2) := ⟨fun _ => ⟨bpp, bqq, hq0⟩, by omega⟩
                  refine z_callVi X zm_X4_letterItself zw822 zp38 zw820 (zFit_of (by decide) (by decide)) [] (q_letterItself HU HA l O29 G30 hS30 hlt) rfl rfl (Nat.le_of_ble_eq_true rfl) (by omega) gM_O (q := vwCl[6]) rfl rfl dX4_letter_296 (fun z30 S30 hz30 => ?_)
                  exact E S30 (Or.inr (Or.inr (Or.inr ⟨hd1, hlt, hk0, hkp3, ⟨la, lb⟩, hDD, hz30.1, _, _, hz30.2, by rw [if_pos (by omega), if_pos (by omega)] <;> exact hrel⟩))) rfl dX4_letter_299
            · refine z_aload_n X 0 rfl rfl dX4_letter_146 ?_
              refine z_iconst X (n := 3) dX4_letter_147 ?_
              refine z_callVi X zm_X4_raise zw783 zp32 zw781 (zFit_of (by decide) (by decide)) [.int (iZ (3))] (c_X4_raise l S9 3) rfl rfl (Nat.le_of_ble_eq_true rfl) (by omega) gM_O (q := vwCl[6]) rfl rfl dX4_letter_148 (fun zr Sr hzr => ?_)
              have hDD0 : md_x cu ca ((EL n).1) * (EL n).2 - md_x cu ca ((EL n).2) * (EL n).1 = 0 := by
                rcases hz140 with q | q
                · exact q.2
                · omega
              exact E Sr (Or.inr (Or.inr (Or.inl ⟨hd1, hlt, Or.inr (Or.inr (Or.inr hDD0)), by rw [hzr.2]; exact zGm_code (cd := 0) ⟨⟨F9, _, O9, ⟨G1.1, G1.2.1, G1.2.2.1, G1.2.2.2.1, fun q => absurd hk0 q⟩⟩, hS⟩ 3⟩))) rfl dX4_letter_151
          · refine z_aload_n X 0 rfl rfl dX4_letter_36 ?_
            refine z_iconst X (n := 3) dX4_letter_37 ?_
            refine z_callVi X zm_X4_raise zw783 zp32 zw781 (zFit_of (by decide) (by decide)) [.int (iZ (3))] (c_X4_raise l S1 3) rfl rfl (Nat.le_of_ble_eq_true rfl) (by omega) gM_O (q := vwCl[6]) rfl rfl dX4_letter_38 (fun zr Sr hzr => ?_)
            exact E Sr (Or.inr (Or.inr (Or.inl ⟨hd1, hlt, Or.inr (Or.inr (Or.inl (by rcases hzL with q | q; omega; exact q.2))), by rw [hzr.2]; exact zGm_code hc1 3⟩))) rfl dX4_letter_41
  · refine z_iconst X (n := 0) dX4_letter_9 ?_
    rcases hz1 with ⟨q1, q2, q3⟩ | ⟨q1, q2, q3, q4⟩ | ⟨q1, q2, q3, q4⟩
    · exact E S1 (Or.inl ⟨fun q => q1 ⟨q, q⟩, by rw [q3]; exact zGm_code hC0 1⟩) rfl dX4_letter_10
    · exact E S1 (Or.inr (Or.inl ⟨q1.1, q2, by rw [q4]; exact zGm_code hC0 2⟩)) rfl dX4_letter_10
    · exact absurd q3 (by omega)
