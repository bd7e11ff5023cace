section
variable {U V : Type}
theorem ms_t_e [Lean.Grind.CommRing U] [Lean.Grind.CommRing V] {cu : U → Nat → FP} {ca : V → Nat → U} (HU : mp_P cu) : mp_m ca (mp_m cu 1 0) 1 = ms_t ca := by
  rw [show mp_m cu (1 : FP) 0 = mp_C cu 1 from rfl, mp_C_1 HU]
  rfl
/-- of a part without squares the special or the normal part, as the reference has it -/
def mSp [Lean.Grind.CommRing U] [Lean.Grind.CommRing V] (ca : V → Nat → U) (kd kp : Int) (x r : V) : Prop := (kd = 2 ∧ ca x 0 = 0 ∧ ∃ w, x = ms_t ca * w ∧ r = if kp = 4 then ms_t ca else w) ∨ (¬ (kd = 2 ∧ ca x 0 = 0) ∧ r = if kp = 4 then 1 else x)
end
set_option maxHeartbeats 8000000 in
set_option maxRecDepth 100000 in
theorem c_X4_part {U V : Type} [Lean.Grind.CommRing U] [Lean.Grind.CommRing V] {cu : U → Nat → FP} {ca : V → Nat → U} (HU : mp_P cu) (HA : mp_P ca) (l : Launch) {D : va_G} {ad : Nat → Nat} {cI : ClassId} {EL : Int → V × V} {md kd : Int} {W sD : V} {cd : Int} {M : zM} (hC : zGm cu ca EL md kd W sD cd M) (hl1 : ∀ n, 0 ≤ n → n < md → mp_lc cu (mp_lc ca (EL n).2) = 1) {n kp : Int} (hn : -2147483648 ≤ n ∧ n < 2147483648) (hkp : -2147483648 ≤ kp ∧ kp < 2147483648) : zMi l yX4_part cX4_part 5 (some .int) 5 D (zTyM cI) 18 ad [.ref (ad 0), .int (iZ (n)), .int (iZ (kp))] (gM ad cI M) (gM ad cI) (fun z u => (¬ (0 ≤ n ∧ n < md) ∧ zGm cu ca EL md kd W sD 1 u) ∨ ((0 ≤ n ∧ n < md) ∧ ¬ md < 120 ∧ zGm cu ca EL md kd W sD 2 u) ∨ ((0 ≤ n ∧ n < md) ∧ md < 120 ∧ ¬ (0 ≤ kp ∧ kp ≤ 4) ∧ zGm cu ca EL md kd W sD 3 u) ∨ ((0 ≤ n ∧ n < md) ∧ md < 120 ∧ (0 ≤ kp ∧ kp ≤ 4) ∧ z = md ∧ ∃ r, zGm cu ca (zUp EL md (r, 1)) (md + 1) kd W sD 0 u ∧ ((kp = 0 ∧ r = (EL n).1) ∨ (kp = 1 ∧ r = (EL n).2) ∨ (kp = 2 ∧ zSq cu ca (EL n).2 r) ∨ (3 ≤ kp ∧ ∃ x, zSq cu ca (EL n).2 x ∧ mSp ca kd kp x r)))) := by
  have hC0 := hC
  obtain ⟨⟨F, T, hO, hG⟩, hS⟩ := hC
  have hmd : M.2.2.2.1 = md := (zO_rm hO).trans hG.2.2.1
  have hkd : M.2.2.2.2.1 = kd := (zO_rk hO).trans hG.2.2.2.1
  have hm : 0 ≤ md ∧ md ≤ 120 := by
    have q1 := hG.1.1
    have q2 := hG.1.2.1
    rw [hG.2.2.1] at q1 q2
    exact ⟨q1, q2⟩
  have hel : ∀ n, 0 ≤ n → n < md → mEl cu ca T.1 n (EL n).1 ∧ mEl cu ca T.2.1 n (EL n).2 := fun n h0 h1 => hG.1.2.2 n h0 (by rw [hG.2.2.1]; exact h1)
  have v0_3 : F 3 = F 3 := rfl
  have v0_4 : F 4 = F 4 := rfl
  have hkb := hS.2
  refine z_goi zm_X4_part (Nat.le_of_ble_eq_true rfl) [(0, .ref (ad 0)), (1, .int (iZ (n))), (2, .int (iZ (kp)))] rfl (fun p e s m args below meth c A Q X E => ?_)
  refine z_aload_n X 0 rfl rfl dX4_part_0 ?_
  refine z_iload_n X 1 rfl rfl dX4_part_1 ?_
  refine z_iload_n X 1 rfl rfl dX4_part_2 ?_
  refine z_callVi X zm_X4_are zw771 zp29 zw769 (zFit_of (by decide) (by decide)) [.int (iZ (n)), .int (iZ (n))] (c_X4_are l M hn hn hmd hm) rfl rfl (Nat.le_of_ble_eq_true rfl) (by omega) gM_O (q := vwCl[6]) rfl rfl dX4_part_3 (fun z1 S1 hz1 => ?_)
  have hy1 : z1 = 0 ∨ z1 = 1 := by
    rcases hz1 with q | q | q
    · exact Or.inl q.2.1
    · exact Or.inl q.2.2.1
    · exact Or.inr q.2.2.1
  refine z_if_ne X (tgt := 11) (by omega) dX4_part_6 (by decide) (fun hb6 => ?_) (fun hb6 => ?_)
  · obtain ⟨hd, hlt, eS1⟩ : ((0 ≤ n ∧ n < md) ∧ (0 ≤ n ∧ n < md)) ∧ md < 120 ∧ S1 = fcode M 0 := by
      rcases hz1 with q | q | q
      · exact absurd q.2.1 (by omega)
      · exact absurd q.2.2.1 (by omega)
      · exact ⟨q.1, q.2.1, q.2.2.2⟩
    have O1 := zO_code hO (0)
    rw [← eS1] at O1
    have G1 := mG_code hG (0)
    have hcode1 : S1.2.2.1 = 0 := by rw [eS1]; rfl
    have hmd1 : S1.2.2.2.1 = md := (zO_rm O1).trans G1.2.2.1
    have hkd1 : S1.2.2.2.2.1 = kd := (zO_rk O1).trans G1.2.2.2.1
    obtain ⟨x1a, x1b⟩ := hel n (by omega) (by omega)
    have hd1 : (0 ≤ n ∧ n < md) := hd.1
    have hl2 := hl1 n hd1.1 hd1.2
    refine z_iload_n X 2 rfl rfl dX4_part_11 ?_
    refine z_if_lt X (tgt := 20) (by omega) dX4_part_12 (by decide) (fun hb12 => ?_) (fun hb12 => ?_)
    · refine z_aload_n X 0 rfl rfl dX4_part_20 ?_
      refine z_iconst X (n := 3) dX4_part_21 ?_
      refine z_callVi X zm_X4_raise zw783 zp32 zw781 (zFit_of (by decide) (by decide)) [.int (iZ (3))] (c_X4_raise l S1 3) rfl rfl (Nat.le_of_ble_eq_true rfl) (by omega) gM_O (q := vwCl[6]) rfl rfl dX4_part_22 (fun zr Sr hzr => ?_)
      exact E Sr (Or.inr (Or.inr (Or.inl ⟨hd1, hlt, by omega, by rw [hzr.2]; exact zGm_code (cd := 0) ⟨⟨F, _, O1, G1⟩, hS⟩ 3⟩))) rfl dX4_part_25
    · refine z_iload_n X 2 rfl rfl dX4_part_15 ?_
      refine z_iconst X (n := 4) dX4_part_16 ?_
      refine z_icmp_le X (tgt := 26) (by omega) (by omega) dX4_part_17 (by decide) (fun hb17 => ?_) (fun hb17 => ?_)
      · refine z_aload_n X 0 rfl rfl dX4_part_26 ?_
        refine z_aload_n X 0 rfl rfl dX4_part_27 ?_
        refine z_get X zinX4 0 (by omega) gM_O (ci := 6) rfl 7 (by decide) (ref := "TowerFieldsModel") zw678 rfl rfl dX4_part_28 ?_
        refine z_iload_n X 2 rfl rfl dX4_part_31 ?_
        refine z_if_ne X (tgt := 42) (by omega) dX4_part_32 (by decide) (fun hb32 => ?_) (fun hb32 => ?_)
        · refine z_aload_n X 0 rfl rfl dX4_part_42 ?_
          refine z_get X zinX4 0 (by omega) gM_O (ci := 6) rfl 3 (by decide) (ref := "TowerFieldsModel") zw674 rfl rfl dX4_part_43 ?_
          refine z_iload_n X 1 rfl rfl dX4_part_46 ?_
          refine z_callVv X zm_X4_load zw787 zp33 zw785 (zFit_of (by decide) (by decide)) [.ref (ad (5)), .ref (ad (2)), .int (iZ (n))] (q_load HU HA l O1 (x := 5) (r := 2) (by decide) (by omega) (by omega) (by omega) (a := (EL n).2) (by rw [zO_r2 O1]; exact x1b)) rfl rfl (Nat.le_of_ble_eq_true rfl) (by omega) gM_O (q := vwCl[6]) rfl rfl dX4_part_47 (fun S3 O3 => ?_)
          obtain ⟨F3, eF3⟩ : ∃ Fz, Fz = va_up F 5 ((EL n).2) := ⟨_, rfl⟩
          rw [← eF3] at O3
          have v3_5 : F3 5 = (EL n).2 := by rw [eF3, va_up_self]
          have v3_3 : F3 3 = F 3 := (congrFun eF3 3).trans ((va_up_ne _ _ (by omega)).trans v0_3)
          have v3_4 : F3 4 = F 4 := (congrFun eF3 4).trans ((va_up_ne _ _ (by omega)).trans v0_4)
          clear eF3
          refine z_iload_n X 2 rfl rfl dX4_part_50 ?_
          refine z_iconst X (n := 1) dX4_part_51 ?_
          refine z_icmp_le X (tgt := 59) (by omega) (by omega) dX4_part_52 (by decide) (fun hb52 => ?_) (fun hb52 => ?_)
          · have hkd4 : S3.2.2.2.2.1 = kd := (zO_rk O3).trans G1.2.2.2.1
            refine z_aload_n X 0 rfl rfl dX4_part_59 ?_
            refine z_get X zinX4 0 (by omega) gM_O (ci := 6) rfl 4 (by decide) (ref := "TowerFieldsModel") zw675 rfl rfl dX4_part_60 ?_
            refine z_eqi (b := kd) hkd4 ?_
            refine z_iconst X (n := 2) dX4_part_63 ?_
            refine z_icmp_ne X (tgt := 76) (by omega) (by omega) dX4_part_64 (by decide) (fun hb64 => ?_) (fun hb64 => ?_)
            · refine z_iconst X (n := 0) dX4_part_76 ?_
              refine z_istore_n X [(3, .int (iZ (0))), (0, .ref (ad 0)), (1, .int (iZ (n))), (2, .int (iZ (kp)))] rfl rfl (by decide) dX4_part_77 ?_
              refine z_iconst X (n := 0) dX4_part_78 ?_
              refine z_istore X [(4, .int (iZ (0))), (3, .int (iZ (0))), (0, .ref (ad 0)), (1, .int (iZ (n))), (2, .int (iZ (kp)))] rfl (by decide) dX4_part_79 ?_
              refine z_iload X 0 rfl dX4_part_81 ?_
              refine z_bipush X (n := 40) (by decide) dX4_part_83 ?_
              refine z_icmp_ge X (tgt := 114) (by omega) (by omega) dX4_part_85 (by decide) (fun hb85 => absurd hb85 (by omega)) (fun hb85 => ?_)
              refine z_iload_n X 1 rfl rfl dX4_part_88 ?_
              refine z_if_eq X (tgt := 114) (by omega) dX4_part_89 (by decide) (fun hb89 => ?_) (fun hb89 => absurd hb89 (by omega))
              refine z_iload_n X 4 rfl rfl dX4_part_114 ?_
              refine z_iconst X (n := 3) dX4_part_115 ?_
              refine z_icmp_ne X (tgt := 172) (by omega) (by omega) dX4_part_116 (by decide) (fun hb116 => ?_) (fun hb116 => absurd hb116 (by omega))
              refine z_iload_n X 4 rfl rfl dX4_part_172 ?_
              refine z_iconst X (n := 4) dX4_part_173 ?_
              refine z_icmp_ne X (tgt := 204) (by omega) (by omega) dX4_part_174 (by decide) (fun hb174 => ?_) (fun hb174 => absurd hb174 (by omega))
              refine z_aload_n X 2 rfl rfl dX4_part_204 ?_
              refine z_get X zinX4 0 (by omega) gM_O (ci := 6) rfl 12 (by decide) (ref := "TowerFieldsModel") zw683 rfl rfl dX4_part_205 ?_
              refine z_aload_n X 2 rfl rfl dX4_part_208 ?_
              refine z_get X zinX4 0 (by omega) gM_O (ci := 6) rfl 7 (by decide) (ref := "TowerFieldsModel") zw678 rfl rfl dX4_part_209 ?_
              refine z_callSv X zm_X4_copy zw806 zw805 (zFit_of (by decide) (by decide)) [.ref (ad (10)), .ref (ad (5))] (q_copy HU HA l O3 (x := 10) (y := 5) (by decide) (by decide) (by omega)) rfl rfl (Nat.le_of_ble_eq_true rfl) dX4_part_212 (fun S5 O5 => ?_)
              obtain ⟨F5, eF5⟩ : ∃ Fz, Fz = va_up F3 10 (F3 5) := ⟨_, rfl⟩
              rw [← eF5] at O5
              have v5_10 : F5 10 = (EL n).2 := by rw [eF5, va_up_self, v3_5]
              have v5_3 : F5 3 = F 3 := (congrFun eF5 3).trans ((va_up_ne _ _ (by omega)).trans v3_3)
              have v5_4 : F5 4 = F 4 := (congrFun eF5 4).trans ((va_up_ne _ _ (by omega)).trans v3_4)
              have v5_5 : F5 5 = (EL n).2 := (congrFun eF5 5).trans ((va_up_ne _ _ (by omega)).trans v3_5)
              clear eF5
              refine z_aload_n X 2 rfl rfl dX4_part_215 ?_
              refine z_aload_n X 2 rfl rfl dX4_part_216 ?_
              refine z_get X zinX4 0 (by omega) gM_O (ci := 6) rfl 13 (by decide) (ref := "TowerFieldsModel") zw684 rfl rfl dX4_part_217 ?_
              refine z_callVv X zm_X4_one zw752 zp27 zw750 (zFit_of (by decide) (by decide)) [.ref (ad (11))] (q_one HU HA l O5 (x := 11) (by decide)) rfl rfl (Nat.le_of_ble_eq_true rfl) (by omega) gM_O (q := vwCl[6]) rfl rfl dX4_part_220 (fun S6 O6 => ?_)
              obtain ⟨F6, eF6⟩ : ∃ Fz, Fz = va_up F5 11 (1) := ⟨_, rfl⟩
              rw [← eF6] at O6
              have v6_11 : F6 11 = 1 := by rw [eF6, va_up_self]
              have v6_3 : F6 3 = F 3 := (congrFun eF6 3).trans ((va_up_ne _ _ (by omega)).trans v5_3)
              have v6_4 : F6 4 = F 4 := (congrFun eF6 4).trans ((va_up_ne _ _ (by omega)).trans v5_4)
              have v6_5 : F6 5 = (EL n).2 := (congrFun eF6 5).trans ((va_up_ne _ _ (by omega)).trans v5_5)
              have v6_10 : F6 10 = (EL n).2 := (congrFun eF6 10).trans ((va_up_ne _ _ (by omega)).trans v5_10)
              clear eF6
              refine z_aload_n X 2 rfl rfl dX4_part_223 ?_
              refine z_callVi X zm_X4_keep zw759 zp28 zw757 (zFit_of (by decide) (by decide)) [] (q_keep HU HA l O6 (mG_F G1 (F9 := F6) (v6_3.trans (rfl : F 3 = F 3).symm) (v6_4.trans (rfl : F 4 = F 4).symm)) hS hlt (p := (EL n).2) (q := 1) v6_10 v6_11 x1b.2 (zbox_1 HU HA)) rfl rfl (Nat.le_of_ble_eq_true rfl) (by omega) gM_O (q := vwCl[6]) rfl rfl dX4_part_224 (fun z7 S7 hz7 => ?_)
              exact E S7 (Or.inr (Or.inr (Or.inr ⟨hd1, hlt, by omega, hz7.1, (EL n).2, hz7.2, Or.inr (Or.inl ⟨by omega, rfl⟩)⟩))) rfl dX4_part_227
            · refine z_iload_n X 2 rfl rfl dX4_part_67 ?_
              refine z_iconst X (n := 1) dX4_part_68 ?_
              refine z_icmp_le X (tgt := 76) (by omega) (by omega) dX4_part_69 (by decide) (fun hb69 => ?_) (fun hb69 => absurd hb69 (by omega))
              refine z_iconst X (n := 0) dX4_part_76 ?_
              refine z_istore_n X [(3, .int (iZ (0))), (0, .ref (ad 0)), (1, .int (iZ (n))), (2, .int (iZ (kp)))] rfl rfl (by decide) dX4_part_77 ?_
              refine z_iconst X (n := 0) dX4_part_78 ?_
              refine z_istore X [(4, .int (iZ (0))), (3, .int (iZ (0))), (0, .ref (ad 0)), (1, .int (iZ (n))), (2, .int (iZ (kp)))] rfl (by decide) dX4_part_79 ?_
              refine z_iload X 0 rfl dX4_part_81 ?_
              refine z_bipush X (n := 40) (by decide) dX4_part_83 ?_
              refine z_icmp_ge X (tgt := 114) (by omega) (by omega) dX4_part_85 (by decide) (fun hb85 => absurd hb85 (by omega)) (fun hb85 => ?_)
              refine z_iload_n X 1 rfl rfl dX4_part_88 ?_
              refine z_if_eq X (tgt := 114) (by omega) dX4_part_89 (by decide) (fun hb89 => ?_) (fun hb89 => absurd hb89 (by omega))
              refine z_iload_n X 4 rfl rfl dX4_part_114 ?_
              refine z_iconst X (n := 3) dX4_part_115 ?_
              refine z_icmp_ne X (tgt := 172) (by omega) (by omega) dX4_part_116 (by decide) (fun hb116 => ?_) (fun hb116 => absurd hb116 (by omega))
              refine z_iload_n X 4 rfl rfl dX4_part_172 ?_
              refine z_iconst X (n := 4) dX4_part_173 ?_
              refine z_icmp_ne X (tgt := 204) (by omega) (by omega) dX4_part_174 (by decide) (fun hb174 => ?_) (fun hb174 => absurd hb174 (by omega))
              refine z_aload_n X 2 rfl rfl dX4_part_204 ?_
              refine z_get X zinX4 0 (by omega) gM_O (ci := 6) rfl 12 (by decide) (ref := "TowerFieldsModel") zw683 rfl rfl dX4_part_205 ?_
              refine z_aload_n X 2 rfl rfl dX4_part_208 ?_
              refine z_get X zinX4 0 (by omega) gM_O (ci := 6) rfl 7 (by decide) (ref := "TowerFieldsModel") zw678 rfl rfl dX4_part_209 ?_
              refine z_callSv X zm_X4_copy zw806 zw805 (zFit_of (by decide) (by decide)) [.ref (ad (10)), .ref (ad (5))] (q_copy HU HA l O3 (x := 10) (y := 5) (by decide) (by decide) (by omega)) rfl rfl (Nat.le_of_ble_eq_true rfl) dX4_part_212 (fun S8 O8 => ?_)
              obtain ⟨F8, eF8⟩ : ∃ Fz, Fz = va_up F3 10 (F3 5) := ⟨_, rfl⟩
              rw [← eF8] at O8
              have v8_10 : F8 10 = (EL n).2 := by rw [eF8, va_up_self, v3_5]
              have v8_3 : F8 3 = F 3 := (congrFun eF8 3).trans ((va_up_ne _ _ (by omega)).trans v3_3)
              have v8_4 : F8 4 = F 4 := (congrFun eF8 4).trans ((va_up_ne _ _ (by omega)).trans v3_4)
              have v8_5 : F8 5 = (EL n).2 := (congrFun eF8 5).trans ((va_up_ne _ _ (by omega)).trans v3_5)
              clear eF8
              refine z_aload_n X 2 rfl rfl dX4_part_215 ?_
              refine z_aload_n X 2 rfl rfl dX4_part_216 ?_
              refine z_get X zinX4 0 (by omega) gM_O (ci := 6) rfl 13 (by decide) (ref := "TowerFieldsModel") zw684 rfl rfl dX4_part_217 ?_
              refine z_callVv X zm_X4_one zw752 zp27 zw750 (zFit_of (by decide) (by decide)) [.ref (ad (11))] (q_one HU HA l O8 (x := 11) (by decide)) rfl rfl (Nat.le_of_ble_eq_true rfl) (by omega) gM_O (q := vwCl[6]) rfl rfl dX4_part_220 (fun S9 O9 => ?_)
              obtain ⟨F9, eF9⟩ : ∃ Fz, Fz = va_up F8 11 (1) := ⟨_, rfl⟩
              rw [← eF9] at O9
              have v9_11 : F9 11 = 1 := by rw [eF9, va_up_self]
              have v9_3 : F9 3 = F 3 := (congrFun eF9 3).trans ((va_up_ne _ _ (by omega)).trans v8_3)
              have v9_4 : F9 4 = F 4 := (congrFun eF9 4).trans ((va_up_ne _ _ (by omega)).trans v8_4)
              have v9_5 : F9 5 = (EL n).2 := (congrFun eF9 5).trans ((va_up_ne _ _ (by omega)).trans v8_5)
              have v9_10 : F9 10 = (EL n).2 := (congrFun eF9 10).trans ((va_up_ne _ _ (by omega)).trans v8_10)
              clear eF9
              refine z_aload_n X 2 rfl rfl dX4_part_223 ?_
              refine z_callVi X zm_X4_keep zw759 zp28 zw757 (zFit_of (by decide) (by decide)) [] (q_keep HU HA l O9 (mG_F G1 (F9 := F9) (v9_3.trans (rfl : F 3 = F 3).symm) (v9_4.trans (rfl : F 4 = F 4).symm)) hS hlt (p := (EL n).2) (q := 1) v9_10 v9_11 x1b.2 (zbox_1 HU HA)) rfl rfl (Nat.le_of_ble_eq_true rfl) (by omega) gM_O (q := vwCl[6]) rfl rfl dX4_part_224 (fun z10 S10 hz10 => ?_)
              exact E S10 (Or.inr (Or.inr (Or.inr ⟨hd1, hlt, by omega, hz10.1, (EL n).2, hz10.2, Or.inr (Or.inl ⟨by omega, rfl⟩)⟩))) rfl dX4_part_227
          · refine z_aload_n X 0 rfl rfl dX4_part_55 ?_
            refine z_callVv X zm_X4_bare zw894 zp47 zw892 (zFit_of (by decide) (by decide)) [] (q_bare HU HA l O3 (by rw [v3_5]; exact x1b.2) (by rw [v3_5]; exact hl2)) rfl rfl (Nat.le_of_ble_eq_true rfl) (by omega) gM_O (q := vwCl[6]) rfl rfl dX4_part_56 (fun S11 O11 => ?_)
            obtain ⟨F11, O11, hsq, k3, k4, bx⟩ := O11
            rw [v3_5] at hsq
            obtain ⟨xx, exx⟩ : ∃ xx, xx = F11 5 := ⟨_, rfl⟩
            rw [← exx] at hsq bx
            have v11_3 : F11 3 = F 3 := k3.trans v3_3
            have v11_4 : F11 4 = F 4 := k4.trans v3_4
            have hkd12 : S11.2.2.2.2.1 = kd := (zO_rk O11).trans G1.2.2.2.1
            refine z_aload_n X 0 rfl rfl dX4_part_59 ?_
            refine z_get X zinX4 0 (by omega) gM_O (ci := 6) rfl 4 (by decide) (ref := "TowerFieldsModel") zw675 rfl rfl dX4_part_60 ?_
            refine z_eqi (b := kd) hkd12 ?_
            refine z_iconst X (n := 2) dX4_part_63 ?_
            refine z_icmp_ne X (tgt := 76) (by omega) (by omega) dX4_part_64 (by decide) (fun hb64 => ?_) (fun hb64 => ?_)
            · refine z_iconst X (n := 0) dX4_part_76 ?_
              refine z_istore_n X [(3, .int (iZ (0))), (0, .ref (ad 0)), (1, .int (iZ (n))), (2, .int (iZ (kp)))] rfl rfl (by decide) dX4_part_77 ?_
              refine z_iconst X (n := 0) dX4_part_78 ?_
              refine z_istore X [(4, .int (iZ (0))), (3, .int (iZ (0))), (0, .ref (ad 0)), (1, .int (iZ (n))), (2, .int (iZ (kp)))] rfl (by decide) dX4_part_79 ?_
              refine z_iload X 0 rfl dX4_part_81 ?_
              refine z_bipush X (n := 40) (by decide) dX4_part_83 ?_
              refine z_icmp_ge X (tgt := 114) (by omega) (by omega) dX4_part_85 (by decide) (fun hb85 => absurd hb85 (by omega)) (fun hb85 => ?_)
              refine z_iload_n X 1 rfl rfl dX4_part_88 ?_
              refine z_if_eq X (tgt := 114) (by omega) dX4_part_89 (by decide) (fun hb89 => ?_) (fun hb89 => absurd hb89 (by omega))
              refine z_iload_n X 4 rfl rfl dX4_part_114 ?_
              refine z_iconst X (n := 3) dX4_part_115 ?_
              refine z_icmp_ne X (tgt := 172) (by omega) (by omega) dX4_part_116 (by decide) (fun hb116 => ?_) (fun hb116 => ?_)
              · refine z_iload_n X 4 rfl rfl dX4_part_172 ?_
                refine z_iconst X (n := 4) dX4_part_173 ?_
                refine z_icmp_ne X (tgt := 204) (by omega) (by omega) dX4_part_174 (by decide) (fun hb174 => ?_) (fun hb174 => ?_)
                · refine z_aload_n X 2 rfl rfl dX4_part_204 ?_
                  refine z_get X zinX4 0 (by omega) gM_O (ci := 6) rfl 12 (by decide) (ref := "TowerFieldsModel") zw683 rfl rfl dX4_part_205 ?_
                  refine z_aload_n X 2 rfl rfl dX4_part_208 ?_
                  refine z_get X zinX4 0 (by omega) gM_O (ci := 6) rfl 7 (by decide) (ref := "TowerFieldsModel") zw678 rfl rfl dX4_part_209 ?_
                  refine z_callSv X zm_X4_copy zw806 zw805 (zFit_of (by decide) (by decide)) [.ref (ad (10)), .ref (ad (5))] (q_copy HU HA l O11 (x := 10) (y := 5) (by decide) (by decide) (by omega)) rfl rfl (Nat.le_of_ble_eq_true rfl) dX4_part_212 (fun S13 O13 => ?_)
                  obtain ⟨F13, eF13⟩ : ∃ Fz, Fz = va_up F11 10 (F11 5) := ⟨_, rfl⟩
                  rw [← eF13] at O13
                  have v13_10 : F13 10 = xx := by rw [eF13, va_up_self, exx.symm]
                  have v13_3 : F13 3 = F 3 := (congrFun eF13 3).trans ((va_up_ne _ _ (by omega)).trans v11_3)
                  have v13_4 : F13 4 = F 4 := (congrFun eF13 4).trans ((va_up_ne _ _ (by omega)).trans v11_4)
                  have v13_5 : F13 5 = xx := (congrFun eF13 5).trans ((va_up_ne _ _ (by omega)).trans exx.symm)
                  clear eF13
                  refine z_aload_n X 2 rfl rfl dX4_part_215 ?_
                  refine z_aload_n X 2 rfl rfl dX4_part_216 ?_
                  refine z_get X zinX4 0 (by omega) gM_O (ci := 6) rfl 13 (by decide) (ref := "TowerFieldsModel") zw684 rfl rfl dX4_part_217 ?_
                  refine z_callVv X zm_X4_one zw752 zp27 zw750 (zFit_of (by decide) (by decide)) [.ref (ad (11))] (q_one HU HA l O13 (x := 11) (by decide)) rfl rfl (Nat.le_of_ble_eq_true rfl) (by omega) gM_O (q := vwCl[6]) rfl rfl dX4_part_220 (fun S14 O14 => ?_)
                  obtain ⟨F14, eF14⟩ : ∃ Fz, Fz = va_up F13 11 (1) := ⟨_, rfl⟩
                  rw [← eF14] at O14
                  have v14_11 : F14 11 = 1 := by rw [eF14, va_up_self]
                  have v14_3 : F14 3 = F 3 := (congrFun eF14 3).trans ((va_up_ne _ _ (by omega)).trans v13_3)
                  have v14_4 : F14 4 = F 4 := (congrFun eF14 4).trans ((va_up_ne _ _ (by omega)).trans v13_4)
                  have v14_5 : F14 5 = xx := (congrFun eF14 5).trans ((va_up_ne _ _ (by omega)).trans v13_5)
                  have v14_10 : F14 10 = xx := (congrFun eF14 10).trans ((va_up_ne _ _ (by omega)).trans v13_10)
                  clear eF14
                  refine z_aload_n X 2 rfl rfl dX4_part_223 ?_
                  refine z_callVi X zm_X4_keep zw759 zp28 zw757 (zFit_of (by decide) (by decide)) [] (q_keep HU HA l O14 (mG_F G1 (F9 := F14) (v14_3.trans (rfl : F 3 = F 3).symm) (v14_4.trans (rfl : F 4 = F 4).symm)) hS hlt (p := xx) (q := 1) v14_10 v14_11 bx (zbox_1 HU HA)) rfl rfl (Nat.le_of_ble_eq_true rfl) (by omega) gM_O (q := vwCl[6]) rfl rfl dX4_part_224 (fun z15 S15 hz15 => ?_)
                  exact E S15 (Or.inr (Or.inr (Or.inr ⟨hd1, hlt, by omega, hz15.1, xx, hz15.2, by
                    by_cases k2 : kp = 2
                    · exact Or.inr (Or.inr (Or.inl ⟨k2, hsq⟩))
                    · exact absurd k2 (by omega)⟩))) rfl dX4_part_227
                · refine z_aload_n X 2 rfl rfl dX4_part_177 ?_
                  refine z_aload_n X 2 rfl rfl dX4_part_178 ?_
                  refine z_get X zinX4 0 (by omega) gM_O (ci := 6) rfl 7 (by decide) (ref := "TowerFieldsModel") zw678 rfl rfl dX4_part_179 ?_
                  refine z_callVv X zm_X4_one zw752 zp27 zw750 (zFit_of (by decide) (by decide)) [.ref (ad (5))] (q_one HU HA l O11 (x := 5) (by decide)) rfl rfl (Nat.le_of_ble_eq_true rfl) (by omega) gM_O (q := vwCl[6]) rfl rfl dX4_part_182 (fun S16 O16 => ?_)
                  obtain ⟨F16, eF16⟩ : ∃ Fz, Fz = va_up F11 5 (1) := ⟨_, rfl⟩
                  rw [← eF16] at O16
                  have v16_5 : F16 5 = 1 := by rw [eF16, va_up_self]
                  have v16_3 : F16 3 = F 3 := (congrFun eF16 3).trans ((va_up_ne _ _ (by omega)).trans v11_3)
                  have v16_4 : F16 4 = F 4 := (congrFun eF16 4).trans ((va_up_ne _ _ (by omega)).trans v11_4)
                  clear eF16
                  refine z_iload_n X 1 rfl rfl dX4_part_185 ?_
                  refine z_if_eq X (tgt := 204) (by omega) dX4_part_186 (by decide) (fun hb186 => ?_) (fun hb186 => absurd hb186 (by omega))
                  refine z_aload_n X 2 rfl rfl dX4_part_204 ?_
                  refine z_get X zinX4 0 (by omega) gM_O (ci := 6) rfl 12 (by decide) (ref := "TowerFieldsModel") zw683 rfl rfl dX4_part_205 ?_
                  refine z_aload_n X 2 rfl rfl dX4_part_208 ?_
                  refine z_get X zinX4 0 (by omega) gM_O (ci := 6) rfl 7 (by decide) (ref := "TowerFieldsModel") zw678 rfl rfl dX4_part_209 ?_
                  refine z_callSv X zm_X4_copy zw806 zw805 (zFit_of (by decide) (by decide)) [.ref (ad (10)), .ref (ad (5))] (q_copy HU HA l O16 (x := 10) (y := 5) (by decide) (by decide) (by omega)) rfl rfl (Nat.le_of_ble_eq_true rfl) dX4_part_212 (fun S17 O17 => ?_)
                  obtain ⟨F17, eF17⟩ : ∃ Fz, Fz = va_up F16 10 (F16 5) := ⟨_, rfl⟩
                  rw [← eF17] at O17
                  have v17_10 : F17 10 = 1 := by rw [eF17, va_up_self, v16_5]
                  have v17_3 : F17 3 = F 3 := (congrFun eF17 3).trans ((va_up_ne _ _ (by omega)).trans v16_3)
                  have v17_4 : F17 4 = F 4 := (congrFun eF17 4).trans ((va_up_ne _ _ (by omega)).trans v16_4)
                  have v17_5 : F17 5 = 1 := (congrFun eF17 5).trans ((va_up_ne _ _ (by omega)).trans v16_5)
                  clear eF17
                  refine z_aload_n X 2 rfl rfl dX4_part_215 ?_
                  refine z_aload_n X 2 rfl rfl dX4_part_216 ?_
                  refine z_get X zinX4 0 (by omega) gM_O (ci := 6) rfl 13 (by decide) (ref := "TowerFieldsModel") zw684 rfl rfl dX4_part_217 ?_
                  refine z_callVv X zm_X4_one zw752 zp27 zw750 (zFit_of (by decide) (by decide)) [.ref (ad (11))] (q_one HU HA l O17 (x := 11) (by decide)) rfl rfl (Nat.le_of_ble_eq_true rfl) (by omega) gM_O (q := vwCl[6]) rfl rfl dX4_part_220 (fun S18 O18 => ?_)
                  obtain ⟨F18, eF18⟩ : ∃ Fz, Fz = va_up F17 11 (1) := ⟨_, rfl⟩
                  rw [← eF18] at O18
                  have v18_11 : F18 11 = 1 := by rw [eF18, va_up_self]
                  have v18_3 : F18 3 = F 3 := (congrFun eF18 3).trans ((va_up_ne _ _ (by omega)).trans v17_3)
                  have v18_4 : F18 4 = F 4 := (congrFun eF18 4).trans ((va_up_ne _ _ (by omega)).trans v17_4)
                  have v18_5 : F18 5 = 1 := (congrFun eF18 5).trans ((va_up_ne _ _ (by omega)).trans v17_5)
                  have v18_10 : F18 10 = 1 := (congrFun eF18 10).trans ((va_up_ne _ _ (by omega)).trans v17_10)
                  clear eF18
                  refine z_aload_n X 2 rfl rfl dX4_part_223 ?_
                  refine z_callVi X zm_X4_keep zw759 zp28 zw757 (zFit_of (by decide) (by decide)) [] (q_keep HU HA l O18 (mG_F G1 (F9 := F18) (v18_3.trans (rfl : F 3 = F 3).symm) (v18_4.trans (rfl : F 4 = F 4).symm)) hS hlt (p := 1) (q := 1) v18_10 v18_11 (zbox_1 HU HA) (zbox_1 HU HA)) rfl rfl (Nat.le_of_ble_eq_true rfl) (by omega) gM_O (q := vwCl[6]) rfl rfl dX4_part_224 (fun z19 S19 hz19 => ?_)
                  exact E S19 (Or.inr (Or.inr (Or.inr ⟨hd1, hlt, by omega, hz19.1, 1, hz19.2, Or.inr (Or.inr (Or.inr ⟨by omega, xx, hsq, Or.inr ⟨fun q9 => by have := q9.1; omega, by rw [if_pos (by omega)]⟩⟩))⟩))) rfl dX4_part_227
              · refine z_iload_n X 1 rfl rfl dX4_part_119 ?_
                refine z_if_eq X (tgt := 172) (by omega) dX4_part_120 (by decide) (fun hb120 => ?_) (fun hb120 => absurd hb120 (by omega))
                refine z_iload_n X 4 rfl rfl dX4_part_172 ?_
                refine z_iconst X (n := 4) dX4_part_173 ?_
                refine z_icmp_ne X (tgt := 204) (by omega) (by omega) dX4_part_174 (by decide) (fun hb174 => ?_) (fun hb174 => absurd hb174 (by omega))
                refine z_aload_n X 2 rfl rfl dX4_part_204 ?_
                refine z_get X zinX4 0 (by omega) gM_O (ci := 6) rfl 12 (by decide) (ref := "TowerFieldsModel") zw683 rfl rfl dX4_part_205 ?_
                refine z_aload_n X 2 rfl rfl dX4_part_208 ?_
                refine z_get X zinX4 0 (by omega) gM_O (ci := 6) rfl 7 (by decide) (ref := "TowerFieldsModel") zw678 rfl rfl dX4_part_209 ?_
                refine z_callSv X zm_X4_copy zw806 zw805 (zFit_of (by decide) (by decide)) [.ref (ad (10)), .ref (ad (5))] (q_copy HU HA l O11 (x := 10) (y := 5) (by decide) (by decide) (by omega)) rfl rfl (Nat.le_of_ble_eq_true rfl) dX4_part_212 (fun S20 O20 => ?_)
                obtain ⟨F20, eF20⟩ : ∃ Fz, Fz = va_up F11 10 (F11 5) := ⟨_, rfl⟩
                rw [← eF20] at O20
                have v20_10 : F20 10 = xx := by rw [eF20, va_up_self, exx.symm]
                have v20_3 : F20 3 = F 3 := (congrFun eF20 3).trans ((va_up_ne _ _ (by omega)).trans v11_3)
                have v20_4 : F20 4 = F 4 := (congrFun eF20 4).trans ((va_up_ne _ _ (by omega)).trans v11_4)
                have v20_5 : F20 5 = xx := (congrFun eF20 5).trans ((va_up_ne _ _ (by omega)).trans exx.symm)
                clear eF20
                refine z_aload_n X 2 rfl rfl dX4_part_215 ?_
                refine z_aload_n X 2 rfl rfl dX4_part_216 ?_
                refine z_get X zinX4 0 (by omega) gM_O (ci := 6) rfl 13 (by decide) (ref := "TowerFieldsModel") zw684 rfl rfl dX4_part_217 ?_
                refine z_callVv X zm_X4_one zw752 zp27 zw750 (zFit_of (by decide) (by decide)) [.ref (ad (11))] (q_one HU HA l O20 (x := 11) (by decide)) rfl rfl (Nat.le_of_ble_eq_true rfl) (by omega) gM_O (q := vwCl[6]) rfl rfl dX4_part_220 (fun S21 O21 => ?_)
                obtain ⟨F21, eF21⟩ : ∃ Fz, Fz = va_up F20 11 (1) := ⟨_, rfl⟩
                rw [← eF21] at O21
                have v21_11 : F21 11 = 1 := by rw [eF21, va_up_self]
                have v21_3 : F21 3 = F 3 := (congrFun eF21 3).trans ((va_up_ne _ _ (by omega)).trans v20_3)
                have v21_4 : F21 4 = F 4 := (congrFun eF21 4).trans ((va_up_ne _ _ (by omega)).trans v20_4)
                have v21_5 : F21 5 = xx := (congrFun eF21 5).trans ((va_up_ne _ _ (by omega)).trans v20_5)
                have v21_10 : F21 10 = xx := (congrFun eF21 10).trans ((va_up_ne _ _ (by omega)).trans v20_10)
                clear eF21
                refine z_aload_n X 2 rfl rfl dX4_part_223 ?_
                refine z_callVi X zm_X4_keep zw759 zp28 zw757 (zFit_of (by decide) (by decide)) [] (q_keep HU HA l O21 (mG_F G1 (F9 := F21) (v21_3.trans (rfl : F 3 = F 3).symm) (v21_4.trans (rfl : F 4 = F 4).symm)) hS hlt (p := xx) (q := 1) v21_10 v21_11 bx (zbox_1 HU HA)) rfl rfl (Nat.le_of_ble_eq_true rfl) (by omega) gM_O (q := vwCl[6]) rfl rfl dX4_part_224 (fun z22 S22 hz22 => ?_)
                exact E S22 (Or.inr (Or.inr (Or.inr ⟨hd1, hlt, by omega, hz22.1, xx, hz22.2, Or.inr (Or.inr (Or.inr ⟨by omega, xx, hsq, Or.inr ⟨fun q9 => by have := q9.1; omega, by rw [if_neg (by omega)]⟩⟩))⟩))) rfl dX4_part_227
            · refine z_iload_n X 2 rfl rfl dX4_part_67 ?_
              refine z_iconst X (n := 1) dX4_part_68 ?_
              refine z_icmp_le X (tgt := 76) (by omega) (by omega) dX4_part_69 (by decide) (fun hb69 => absurd hb69 (by omega)) (fun hb69 => ?_)
              refine z_iconst X (n := 1) dX4_part_72 ?_
              refine z_goto X (tgt := 77) dX4_part_73 (by decide) ?_
              refine z_istore_n X [(3, .int (iZ (1))), (0, .ref (ad 0)), (1, .int (iZ (n))), (2, .int (iZ (kp)))] rfl rfl (by decide) dX4_part_77 ?_
              refine z_iconst X (n := 0) dX4_part_78 ?_
              refine z_istore X [(4, .int (iZ (0))), (3, .int (iZ (1))), (0, .ref (ad 0)), (1, .int (iZ (n))), (2, .int (iZ (kp)))] rfl (by decide) dX4_part_79 ?_
              have loop : ∀ (kloop : Nat) (i : Int) (b : Int) (lv : List (Nat × Value)) (ks : List Nat), i + kloop = 40 → 0 ≤ i → ((b = 1 ∧ ∀ k : Nat, (k : Int) < i → cu (ca xx 0) k = 0) ∨ (b = 0 ∧ ∃ k : Nat, (k : Int) < i ∧ ¬ (cu (ca xx 0) k = 0))) → lv_pick lv ks = [(4, .int (iZ (i))), (3, .int (iZ (b))), (0, .ref (ad 0)), (1, .int (iZ (n))), (2, .int (iZ (kp)))] → Z p l e (zRm 5) s m args below meth c 5 D 18 ad A 0 0 Q 81 lv [] (gM ad cI S11) := by
                intro kloop
                induction kloop with
                | zero =>
                  intro i b lv ks e1loop e2loop h3 hlvloop
                  refine z_sub ks hlvloop ?_
                  refine z_iload X 0 rfl dX4_part_81 ?_
                  refine z_bipush X (n := 40) (by decide) dX4_part_83 ?_
                  refine z_icmp_ge X (tgt := 114) (by omega) (by omega) dX4_part_85 (by decide) (fun hb85 => ?_) (fun hb85 => absurd hb85 (by omega))
                  have hb01 : (b = 1 ∧ ca xx 0 = 0) ∨ (b = 0 ∧ ca xx 0 ≠ 0) := by
                    rcases h3 with ⟨q1, q2⟩ | ⟨q1, k, q2, q3⟩
                    · refine Or.inl ⟨q1, mp_ext HU (fun k => ?_)⟩
                      rw [mp_zero HU]
                      by_cases hk : k < 40
                      · exact q2 k (by omega)
                      · exact mp_sz_out HU (Nat.le_trans (mp_xz_row HU HA xx 0) (Nat.le_trans bx.2 (by omega)))
                    · exact Or.inr ⟨q1, fun q => q3 (by rw [q, mp_zero HU])⟩
                  have hby : b = 0 ∨ b = 1 := hb01.elim (fun q => Or.inr q.1) (fun q => Or.inl q.1)
                  refine z_iload_n X 4 rfl rfl dX4_part_114 ?_
                  refine z_iconst X (n := 3) dX4_part_115 ?_
                  refine z_icmp_ne X (tgt := 172) (by omega) (by omega) dX4_part_116 (by decide) (fun hb116 => ?_) (fun hb116 => ?_)
                  · refine z_iload_n X 4 rfl rfl dX4_part_172 ?_
                    refine z_iconst X (n := 4) dX4_part_173 ?_
                    refine z_icmp_ne X (tgt := 204) (by omega) (by omega) dX4_part_174 (by decide) (fun hb174 => ?_) (fun hb174 => ?_)
                    · refine z_aload_n X 2 rfl rfl dX4_part_204 ?_
                      refine z_get X zinX4 0 (by omega) gM_O (ci := 6) rfl 12 (by decide) (ref := "TowerFieldsModel") zw683 rfl rfl dX4_part_205 ?_
                      refine z_aload_n X 2 rfl rfl dX4_part_208 ?_
                      refine z_get X zinX4 0 (by omega) gM_O (ci := 6) rfl 7 (by decide) (ref := "TowerFieldsModel") zw678 rfl rfl dX4_part_209 ?_
                      refine z_callSv X zm_X4_copy zw806 zw805 (zFit_of (by decide) (by decide)) [.ref (ad (10)), .ref (ad (5))] (q_copy HU HA l O11 (x := 10) (y := 5) (by decide) (by decide) (by omega)) rfl rfl (Nat.le_of_ble_eq_true rfl) dX4_part_212 (fun S23 O23 => ?_)
                      obtain ⟨F23, eF23⟩ : ∃ Fz, Fz = va_up F11 10 (F11 5) := ⟨_, rfl⟩
                      rw [← eF23] at O23
                      have v23_10 : F23 10 = xx := by rw [eF23, va_up_self, exx.symm]
                      have v23_3 : F23 3 = F 3 := (congrFun eF23 3).trans ((va_up_ne _ _ (by omega)).trans v11_3)
                      have v23_4 : F23 4 = F 4 := (congrFun eF23 4).trans ((va_up_ne _ _ (by omega)).trans v11_4)
                      have v23_5 : F23 5 = xx := (congrFun eF23 5).trans ((va_up_ne _ _ (by omega)).trans exx.symm)
                      clear eF23
                      refine z_aload_n X 2 rfl rfl dX4_part_215 ?_
                      refine z_aload_n X 2 rfl rfl dX4_part_216 ?_
                      refine z_get X zinX4 0 (by omega) gM_O (ci := 6) rfl 13 (by decide) (ref := "TowerFieldsModel") zw684 rfl rfl dX4_part_217 ?_
                      refine z_callVv X zm_X4_one zw752 zp27 zw750 (zFit_of (by decide) (by decide)) [.ref (ad (11))] (q_one HU HA l O23 (x := 11) (by decide)) rfl rfl (Nat.le_of_ble_eq_true rfl) (by omega) gM_O (q := vwCl[6]) rfl rfl dX4_part_220 (fun S24 O24 => ?_)
                      obtain ⟨F24, eF24⟩ : ∃ Fz, Fz = va_up F23 11 (1) := ⟨_, rfl⟩
                      rw [← eF24] at O24
                      have v24_11 : F24 11 = 1 := by rw [eF24, va_up_self]
                      have v24_3 : F24 3 = F 3 := (congrFun eF24 3).trans ((va_up_ne _ _ (by omega)).trans v23_3)
                      have v24_4 : F24 4 = F 4 := (congrFun eF24 4).trans ((va_up_ne _ _ (by omega)).trans v23_4)
                      have v24_5 : F24 5 = xx := (congrFun eF24 5).trans ((va_up_ne _ _ (by omega)).trans v23_5)
                      have v24_10 : F24 10 = xx := (congrFun eF24 10).trans ((va_up_ne _ _ (by omega)).trans v23_10)
                      clear eF24
                      refine z_aload_n X 2 rfl rfl dX4_part_223 ?_
                      refine z_callVi X zm_X4_keep zw759 zp28 zw757 (zFit_of (by decide) (by decide)) [] (q_keep HU HA l O24 (mG_F G1 (F9 := F24) (v24_3.trans (rfl : F 3 = F 3).symm) (v24_4.trans (rfl : F 4 = F 4).symm)) hS hlt (p := xx) (q := 1) v24_10 v24_11 bx (zbox_1 HU HA)) rfl rfl (Nat.le_of_ble_eq_true rfl) (by omega) gM_O (q := vwCl[6]) rfl rfl dX4_part_224 (fun z25 S25 hz25 => ?_)
                      exact E S25 (Or.inr (Or.inr (Or.inr ⟨hd1, hlt, by omega, hz25.1, xx, hz25.2, by
                        by_cases k2 : kp = 2
                        · exact Or.inr (Or.inr (Or.inl ⟨k2, hsq⟩))
                        · exact absurd k2 (by omega)⟩))) rfl dX4_part_227
                    · refine z_aload_n X 2 rfl rfl dX4_part_177 ?_
                      refine z_aload_n X 2 rfl rfl dX4_part_178 ?_
                      refine z_get X zinX4 0 (by omega) gM_O (ci := 6) rfl 7 (by decide) (ref := "TowerFieldsModel") zw678 rfl rfl dX4_part_179 ?_
                      refine z_callVv X zm_X4_one zw752 zp27 zw750 (zFit_of (by decide) (by decide)) [.ref (ad (5))] (q_one HU HA l O11 (x := 5) (by decide)) rfl rfl (Nat.le_of_ble_eq_true rfl) (by omega) gM_O (q := vwCl[6]) rfl rfl dX4_part_182 (fun S26 O26 => ?_)
                      obtain ⟨F26, eF26⟩ : ∃ Fz, Fz = va_up F11 5 (1) := ⟨_, rfl⟩
                      rw [← eF26] at O26
                      have v26_5 : F26 5 = 1 := by rw [eF26, va_up_self]
                      have v26_3 : F26 3 = F 3 := (congrFun eF26 3).trans ((va_up_ne _ _ (by omega)).trans v11_3)
                      have v26_4 : F26 4 = F 4 := (congrFun eF26 4).trans ((va_up_ne _ _ (by omega)).trans v11_4)
                      clear eF26
                      refine z_iload_n X 1 rfl rfl dX4_part_185 ?_
                      refine z_if_eq X (tgt := 204) (by omega) dX4_part_186 (by decide) (fun hb186 => ?_) (fun hb186 => ?_)
                      · refine z_aload_n X 2 rfl rfl dX4_part_204 ?_
                        refine z_get X zinX4 0 (by omega) gM_O (ci := 6) rfl 12 (by decide) (ref := "TowerFieldsModel") zw683 rfl rfl dX4_part_205 ?_
                        refine z_aload_n X 2 rfl rfl dX4_part_208 ?_
                        refine z_get X zinX4 0 (by omega) gM_O (ci := 6) rfl 7 (by decide) (ref := "TowerFieldsModel") zw678 rfl rfl dX4_part_209 ?_
                        refine z_callSv X zm_X4_copy zw806 zw805 (zFit_of (by decide) (by decide)) [.ref (ad (10)), .ref (ad (5))] (q_copy HU HA l O26 (x := 10) (y := 5) (by decide) (by decide) (by omega)) rfl rfl (Nat.le_of_ble_eq_true rfl) dX4_part_212 (fun S27 O27 => ?_)
                        obtain ⟨F27, eF27⟩ : ∃ Fz, Fz = va_up F26 10 (F26 5) := ⟨_, rfl⟩
                        rw [← eF27] at O27
                        have v27_10 : F27 10 = 1 := by rw [eF27, va_up_self, v26_5]
                        have v27_3 : F27 3 = F 3 := (congrFun eF27 3).trans ((va_up_ne _ _ (by omega)).trans v26_3)
                        have v27_4 : F27 4 = F 4 := (congrFun eF27 4).trans ((va_up_ne _ _ (by omega)).trans v26_4)
                        have v27_5 : F27 5 = 1 := (congrFun eF27 5).trans ((va_up_ne _ _ (by omega)).trans v26_5)
                        clear eF27
                        refine z_aload_n X 2 rfl rfl dX4_part_215 ?_
                        refine z_aload_n X 2 rfl rfl dX4_part_216 ?_
                        refine z_get X zinX4 0 (by omega) gM_O (ci := 6) rfl 13 (by decide) (ref := "TowerFieldsModel") zw684 rfl rfl dX4_part_217 ?_
                        refine z_callVv X zm_X4_one zw752 zp27 zw750 (zFit_of (by decide) (by decide)) [.ref (ad (11))] (q_one HU HA l O27 (x := 11) (by decide)) rfl rfl (Nat.le_of_ble_eq_true rfl) (by omega) gM_O (q := vwCl[6]) rfl rfl dX4_part_220 (fun S28 O28 => ?_)
                        obtain ⟨F28, eF28⟩ : ∃ Fz, Fz = va_up F27 11 (1) := ⟨_, rfl⟩
                        rw [← eF28] at O28
                        have v28_11 : F28 11 = 1 := by rw [eF28, va_up_self]
                        have v28_3 : F28 3 = F 3 := (congrFun eF28 3).trans ((va_up_ne _ _ (by omega)).trans v27_3)
                        have v28_4 : F28 4 = F 4 := (congrFun eF28 4).trans ((va_up_ne _ _ (by omega)).trans v27_4)
                        have v28_5 : F28 5 = 1 := (congrFun eF28 5).trans ((va_up_ne _ _ (by omega)).trans v27_5)
                        have v28_10 : F28 10 = 1 := (congrFun eF28 10).trans ((va_up_ne _ _ (by omega)).trans v27_10)
                        clear eF28
                        refine z_aload_n X 2 rfl rfl dX4_part_223 ?_
                        refine z_callVi X zm_X4_keep zw759 zp28 zw757 (zFit_of (by decide) (by decide)) [] (q_keep HU HA l O28 (mG_F G1 (F9 := F28) (v28_3.trans (rfl : F 3 = F 3).symm) (v28_4.trans (rfl : F 4 = F 4).symm)) hS hlt (p := 1) (q := 1) v28_10 v28_11 (zbox_1 HU HA) (zbox_1 HU HA)) rfl rfl (Nat.le_of_ble_eq_true rfl) (by omega) gM_O (q := vwCl[6]) rfl rfl dX4_part_224 (fun z29 S29 hz29 => ?_)
                        exact E S29 (Or.inr (Or.inr (Or.inr ⟨hd1, hlt, by omega, hz29.1, 1, hz29.2, Or.inr (Or.inr (Or.inr ⟨by omega, xx, hsq, Or.inr ⟨by rcases hb01 with q | q; omega; exact fun q9 => q.2 q9.2, by rw [if_pos (by omega)]⟩⟩))⟩))) rfl dX4_part_227
                      · refine z_aload_n X 2 rfl rfl dX4_part_189 ?_
                        refine z_get X zinX4 0 (by omega) gM_O (ci := 6) rfl 7 (by decide) (ref := "TowerFieldsModel") zw678 rfl rfl dX4_part_190 ?_
                        refine z_callSv X zm_X4_clear zw748 zw747 (zFit_of (by decide) (by decide)) [.ref (ad (5))] (q_clear HU HA l O26 (x := 5) (by decide)) rfl rfl (Nat.le_of_ble_eq_true rfl) dX4_part_193 (fun S30 O30 => ?_)
                        obtain ⟨F30, eF30⟩ : ∃ Fz, Fz = va_up F26 5 (0) := ⟨_, rfl⟩
                        rw [← eF30] at O30
                        have v30_5 : F30 5 = 0 := by rw [eF30, va_up_self]
                        have v30_3 : F30 3 = F 3 := (congrFun eF30 3).trans ((va_up_ne _ _ (by omega)).trans v26_3)
                        have v30_4 : F30 4 = F 4 := (congrFun eF30 4).trans ((va_up_ne _ _ (by omega)).trans v26_4)
                        clear eF30
                        refine z_aload_n X 2 rfl rfl dX4_part_196 ?_
                        refine z_get X zinX4 0 (by omega) gM_O (ci := 6) rfl 7 (by decide) (ref := "TowerFieldsModel") zw678 rfl rfl dX4_part_197 ?_
                        refine z_bipush X (n := 40) (by decide) dX4_part_200 ?_
                        refine z_iconst X (n := 1) dX4_part_202 ?_
                        refine zn_st X (by decide) 880 rfl (by omega) (by omega) (1) rfl (fa S30 5 (va_up (S30.1 5) (40 : Int).toNat (1))) rfl dX4_part_203 ?_
                        obtain ⟨S31, eS31⟩ : ∃ Sz, Sz = fa S30 5 (va_up (S30.1 5) (40 : Int).toNat (1)) := ⟨_, rfl⟩
                        rw [← eS31]
                        have O31 := zO_put HU HA O30 (x := 5) (by decide) v30_5 (i := 1) (j := 0) (by omega) (by omega) (1)
                        rw [show fa S30 5 (va_up (S30.1 5) (40 * 1 + 0) (1)) = S31 from eS31.symm] at O31
                        obtain ⟨F31, eF31⟩ : ∃ Fz, Fz = va_up F30 5 (mp_m ca (mp_m cu (1) 0) 1) := ⟨_, rfl⟩
                        rw [← eF31] at O31
                        have v31_5 : F31 5 = mp_m ca (mp_m cu (1) 0) 1 := by rw [eF31, va_up_self]
                        have v31_3 : F31 3 = F 3 := (congrFun eF31 3).trans ((va_up_ne _ _ (by omega)).trans v30_3)
                        have v31_4 : F31 4 = F 4 := (congrFun eF31 4).trans ((va_up_ne _ _ (by omega)).trans v30_4)
                        clear eF31
                        refine z_aload_n X 2 rfl rfl dX4_part_204 ?_
                        refine z_get X zinX4 0 (by omega) gM_O (ci := 6) rfl 12 (by decide) (ref := "TowerFieldsModel") zw683 rfl rfl dX4_part_205 ?_
                        refine z_aload_n X 2 rfl rfl dX4_part_208 ?_
                        refine z_get X zinX4 0 (by omega) gM_O (ci := 6) rfl 7 (by decide) (ref := "TowerFieldsModel") zw678 rfl rfl dX4_part_209 ?_
                        refine z_callSv X zm_X4_copy zw806 zw805 (zFit_of (by decide) (by decide)) [.ref (ad (10)), .ref (ad (5))] (q_copy HU HA l O31 (x := 10) (y := 5) (by decide) (by decide) (by omega)) rfl rfl (Nat.le_of_ble_eq_true rfl) dX4_part_212 (fun S32 O32 => ?_)
                        obtain ⟨F32, eF32⟩ : ∃ Fz, Fz = va_up F31 10 (F31 5) := ⟨_, rfl⟩
                        rw [← eF32] at O32
                        have v32_10 : F32 10 = mp_m ca (mp_m cu (1) 0) 1 := by rw [eF32, va_up_self, v31_5]
                        have v32_3 : F32 3 = F 3 := (congrFun eF32 3).trans ((va_up_ne _ _ (by omega)).trans v31_3)
                        have v32_4 : F32 4 = F 4 := (congrFun eF32 4).trans ((va_up_ne _ _ (by omega)).trans v31_4)
                        have v32_5 : F32 5 = mp_m ca (mp_m cu (1) 0) 1 := (congrFun eF32 5).trans ((va_up_ne _ _ (by omega)).trans v31_5)
                        clear eF32
                        refine z_aload_n X 2 rfl rfl dX4_part_215 ?_
                        refine z_aload_n X 2 rfl rfl dX4_part_216 ?_
                        refine z_get X zinX4 0 (by omega) gM_O (ci := 6) rfl 13 (by decide) (ref := "TowerFieldsModel") zw684 rfl rfl dX4_part_217 ?_
                        refine z_callVv X zm_X4_one zw752 zp27 zw750 (zFit_of (by decide) (by decide)) [.ref (ad (11))] (q_one HU HA l O32 (x := 11) (by decide)) rfl rfl (Nat.le_of_ble_eq_true rfl) (by omega) gM_O (q := vwCl[6]) rfl rfl dX4_part_220 (fun S33 O33 => ?_)
                        obtain ⟨F33, eF33⟩ : ∃ Fz, Fz = va_up F32 11 (1) := ⟨_, rfl⟩
                        rw [← eF33] at O33
                        have v33_11 : F33 11 = 1 := by rw [eF33, va_up_self]
                        have v33_3 : F33 3 = F 3 := (congrFun eF33 3).trans ((va_up_ne _ _ (by omega)).trans v32_3)
                        have v33_4 : F33 4 = F 4 := (congrFun eF33 4).trans ((va_up_ne _ _ (by omega)).trans v32_4)
                        have v33_5 : F33 5 = mp_m ca (mp_m cu (1) 0) 1 := (congrFun eF33 5).trans ((va_up_ne _ _ (by omega)).trans v32_5)
                        have v33_10 : F33 10 = mp_m ca (mp_m cu (1) 0) 1 := (congrFun eF33 10).trans ((va_up_ne _ _ (by omega)).trans v32_10)
                        clear eF33
                        refine z_aload_n X 2 rfl rfl dX4_part_223 ?_
                        refine z_callVi X zm_X4_keep zw759 zp28 zw757 (zFit_of (by decide) (by decide)) [] (q_keep HU HA l O33 (mG_F G1 (F9 := F33) (v33_3.trans (rfl : F 3 = F 3).symm) (v33_4.trans (rfl : F 4 = F 4).symm)) hS hlt (p := mp_m ca (mp_m cu (1) 0) 1) (q := 1) v33_10 v33_11 (zbox_m HU HA _ (by omega) (by omega)) (zbox_1 HU HA)) rfl rfl (Nat.le_of_ble_eq_true rfl) (by omega) gM_O (q := vwCl[6]) rfl rfl dX4_part_224 (fun z34 S34 hz34 => ?_)
                        exact E S34 (Or.inr (Or.inr (Or.inr ⟨hd1, hlt, by omega, hz34.1, mp_m ca (mp_m cu (1) 0) 1, hz34.2, by
                          have hx0 : ca xx 0 = 0 := by rcases hb01 with q | q; exact q.2; omega
                          obtain ⟨w9, hw9⟩ := (ms_t_D HA).mpr hx0
                          exact Or.inr (Or.inr (Or.inr ⟨by omega, xx, hsq, Or.inl ⟨by omega, hx0, w9, hw9, by rw [if_pos (by omega), ms_t_e HU]⟩⟩))⟩))) rfl dX4_part_227
                  · refine z_iload_n X 1 rfl rfl dX4_part_119 ?_
                    refine z_if_eq X (tgt := 172) (by omega) dX4_part_120 (by decide) (fun hb120 => ?_) (fun hb120 => ?_)
                    · refine z_iload_n X 4 rfl rfl dX4_part_172 ?_
                      refine z_iconst X (n := 4) dX4_part_173 ?_
                      refine z_icmp_ne X (tgt := 204) (by omega) (by omega) dX4_part_174 (by decide) (fun hb174 => ?_) (fun hb174 => absurd hb174 (by omega))
                      refine z_aload_n X 2 rfl rfl dX4_part_204 ?_
                      refine z_get X zinX4 0 (by omega) gM_O (ci := 6) rfl 12 (by decide) (ref := "TowerFieldsModel") zw683 rfl rfl dX4_part_205 ?_
                      refine z_aload_n X 2 rfl rfl dX4_part_208 ?_
                      refine z_get X zinX4 0 (by omega) gM_O (ci := 6) rfl 7 (by decide) (ref := "TowerFieldsModel") zw678 rfl rfl dX4_part_209 ?_
                      refine z_callSv X zm_X4_copy zw806 zw805 (zFit_of (by decide) (by decide)) [.ref (ad (10)), .ref (ad (5))] (q_copy HU HA l O11 (x := 10) (y := 5) (by decide) (by decide) (by omega)) rfl rfl (Nat.le_of_ble_eq_true rfl) dX4_part_212 (fun S35 O35 => ?_)
                      obtain ⟨F35, eF35⟩ : ∃ Fz, Fz = va_up F11 10 (F11 5) := ⟨_, rfl⟩
                      rw [← eF35] at O35
                      have v35_10 : F35 10 = xx := by rw [eF35, va_up_self, exx.symm]
                      have v35_3 : F35 3 = F 3 := (congrFun eF35 3).trans ((va_up_ne _ _ (by omega)).trans v11_3)
                      have v35_4 : F35 4 = F 4 := (congrFun eF35 4).trans ((va_up_ne _ _ (by omega)).trans v11_4)
                      have v35_5 : F35 5 = xx := (congrFun eF35 5).trans ((va_up_ne _ _ (by omega)).trans exx.symm)
                      clear eF35
                      refine z_aload_n X 2 rfl rfl dX4_part_215 ?_
                      refine z_aload_n X 2 rfl rfl dX4_part_216 ?_
                      refine z_get X zinX4 0 (by omega) gM_O (ci := 6) rfl 13 (by decide) (ref := "TowerFieldsModel") zw684 rfl rfl dX4_part_217 ?_
                      refine z_callVv X zm_X4_one zw752 zp27 zw750 (zFit_of (by decide) (by decide)) [.ref (ad (11))] (q_one HU HA l O35 (x := 11) (by decide)) rfl rfl (Nat.le_of_ble_eq_true rfl) (by omega) gM_O (q := vwCl[6]) rfl rfl dX4_part_220 (fun S36 O36 => ?_)
                      obtain ⟨F36, eF36⟩ : ∃ Fz, Fz = va_up F35 11 (1) := ⟨_, rfl⟩
                      rw [← eF36] at O36
                      have v36_11 : F36 11 = 1 := by rw [eF36, va_up_self]
                      have v36_3 : F36 3 = F 3 := (congrFun eF36 3).trans ((va_up_ne _ _ (by omega)).trans v35_3)
                      have v36_4 : F36 4 = F 4 := (congrFun eF36 4).trans ((va_up_ne _ _ (by omega)).trans v35_4)
                      have v36_5 : F36 5 = xx := (congrFun eF36 5).trans ((va_up_ne _ _ (by omega)).trans v35_5)
                      have v36_10 : F36 10 = xx := (congrFun eF36 10).trans ((va_up_ne _ _ (by omega)).trans v35_10)
                      clear eF36
                      refine z_aload_n X 2 rfl rfl dX4_part_223 ?_
                      refine z_callVi X zm_X4_keep zw759 zp28 zw757 (zFit_of (by decide) (by decide)) [] (q_keep HU HA l O36 (mG_F G1 (F9 := F36) (v36_3.trans (rfl : F 3 = F 3).symm) (v36_4.trans (rfl : F 4 = F 4).symm)) hS hlt (p := xx) (q := 1) v36_10 v36_11 bx (zbox_1 HU HA)) rfl rfl (Nat.le_of_ble_eq_true rfl) (by omega) gM_O (q := vwCl[6]) rfl rfl dX4_part_224 (fun z37 S37 hz37 => ?_)
                      exact E S37 (Or.inr (Or.inr (Or.inr ⟨hd1, hlt, by omega, hz37.1, xx, hz37.2, Or.inr (Or.inr (Or.inr ⟨by omega, xx, hsq, Or.inr ⟨by rcases hb01 with q | q; omega; exact fun q9 => q.2 q9.2, by rw [if_neg (by omega)]⟩⟩))⟩))) rfl dX4_part_227
                    · refine z_iconst X (n := 0) dX4_part_123 ?_
                      refine z_istore X [(4, .int (iZ (0))), (3, .int (iZ (b))), (0, .ref (ad 0)), (1, .int (iZ (n))), (2, .int (iZ (kp)))] rfl (by decide) dX4_part_124 ?_
                      obtain ⟨ww, eww⟩ : mp_D (ms_t ca) xx := (ms_t_D HA).mpr (by
                        rcases hb01 with q | q
                        · exact q.2
                        · omega)
                      have hww : ∀ r, ca xx (r + 1) = ca ww r := fun r => by rw [eww, ms_t_mul HA, if_pos (by omega), Nat.add_sub_cancel]
                      have bww : zbb cu ca 7 7 ww := ⟨mp_sz_le HA (fun r hr => by rw [← hww]; exact mp_sz_out HA (Nat.le_trans bx.1 (by omega))), mp_xz_le HU HA (fun r => by rw [← hww]; exact Nat.le_trans (mp_xz_row HU HA _ _) bx.2)⟩
                      rw [← fa_self S11 5]
                      have loop9 : ∀ (kloop9 : Nat) (i2 : Int) (fs : Nat → FP) (lv : List (Nat × Value)) (ks : List Nat), i2 + kloop9 = 880 → 0 ≤ i2 → (∀ j : Nat, j < 880 → fs j = if (j : Int) < i2 then (if j + 40 < 880 then S11.1 5 (j + 40) else 0) else S11.1 5 j) → lv_pick lv ks = [(4, .int (iZ (i2))), (3, .int (iZ (b))), (0, .ref (ad 0)), (1, .int (iZ (n))), (2, .int (iZ (kp)))] → Z p l e (zRm 5) s m args below meth c 5 D 18 ad A 0 0 Q 126 lv [] (gM ad cI (fa S11 5 fs)) := by
                        intro kloop9
                        induction kloop9 with
                        | zero =>
                          intro i2 fs lv ks e1loop9 e2loop9 f4 hlvloop9
                          refine z_sub ks hlvloop9 ?_
                          refine z_iload X 0 rfl dX4_part_126 ?_
                          refine z_sipush X (n := 880) (by decide) dX4_part_128 ?_
                          refine z_icmp_ge X (tgt := 172) (by omega) (by omega) dX4_part_131 (by decide) (fun hb131 => ?_) (fun hb131 => absurd hb131 (by omega))
                          have O38 := zO_fa HU HA O11 (x := 5) (by decide) fs (a := ww) (zbb_le bww (by omega) (by omega)) (fun j hj => by
                            rw [f4 j hj, if_pos (by omega), mk_cf' HU HA (Nat.le_trans bww.2 (by omega))]
                            by_cases e : j + 40 < 880
                            · rw [if_pos e, zO_at O11 (x := 5) (by decide) _ (by omega), exx.symm, mk_cf' HU HA (Nat.le_trans bx.2 (by omega)), show (j + 40) / 40 = j / 40 + 1 by omega, show (j + 40) % 40 = j % 40 by omega, hww]
                            · rw [if_neg e, mp_sz_out HA (a := ww) (Nat.le_trans bww.1 (by omega)), mp_zero HU])
                          obtain ⟨S38, eS38⟩ : ∃ Sz, Sz = fa S11 5 fs := ⟨_, rfl⟩
                          rw [← eS38] at O38 ⊢
                          obtain ⟨F38, eF38⟩ : ∃ Fz, Fz = va_up F11 5 (ww) := ⟨_, rfl⟩
                          rw [← eF38] at O38
                          have v38_5 : F38 5 = ww := by rw [eF38, va_up_self]
                          have v38_3 : F38 3 = F 3 := (congrFun eF38 3).trans ((va_up_ne _ _ (by omega)).trans v11_3)
                          have v38_4 : F38 4 = F 4 := (congrFun eF38 4).trans ((va_up_ne _ _ (by omega)).trans v11_4)
                          clear eF38
                          refine z_iload_n X 4 rfl rfl dX4_part_172 ?_
                          refine z_iconst X (n := 4) dX4_part_173 ?_
                          refine z_icmp_ne X (tgt := 204) (by omega) (by omega) dX4_part_174 (by decide) (fun hb174 => ?_) (fun hb174 => absurd hb174 (by omega))
                          refine z_aload_n X 2 rfl rfl dX4_part_204 ?_
                          refine z_get X zinX4 0 (by omega) gM_O (ci := 6) rfl 12 (by decide) (ref := "TowerFieldsModel") zw683 rfl rfl dX4_part_205 ?_
                          refine z_aload_n X 2 rfl rfl dX4_part_208 ?_
                          refine z_get X zinX4 0 (by omega) gM_O (ci := 6) rfl 7 (by decide) (ref := "TowerFieldsModel") zw678 rfl rfl dX4_part_209 ?_
                          refine z_callSv X zm_X4_copy zw806 zw805 (zFit_of (by decide) (by decide)) [.ref (ad (10)), .ref (ad (5))] (q_copy HU HA l O38 (x := 10) (y := 5) (by decide) (by decide) (by omega)) rfl rfl (Nat.le_of_ble_eq_true rfl) dX4_part_212 (fun S39 O39 => ?_)
                          obtain ⟨F39, eF39⟩ : ∃ Fz, Fz = va_up F38 10 (F38 5) := ⟨_, rfl⟩
                          rw [← eF39] at O39
                          have v39_10 : F39 10 = ww := by rw [eF39, va_up_self, v38_5]
                          have v39_3 : F39 3 = F 3 := (congrFun eF39 3).trans ((va_up_ne _ _ (by omega)).trans v38_3)
                          have v39_4 : F39 4 = F 4 := (congrFun eF39 4).trans ((va_up_ne _ _ (by omega)).trans v38_4)
                          have v39_5 : F39 5 = ww := (congrFun eF39 5).trans ((va_up_ne _ _ (by omega)).trans v38_5)
                          clear eF39
                          refine z_aload_n X 2 rfl rfl dX4_part_215 ?_
                          refine z_aload_n X 2 rfl rfl dX4_part_216 ?_
                          refine z_get X zinX4 0 (by omega) gM_O (ci := 6) rfl 13 (by decide) (ref := "TowerFieldsModel") zw684 rfl rfl dX4_part_217 ?_
                          refine z_callVv X zm_X4_one zw752 zp27 zw750 (zFit_of (by decide) (by decide)) [.ref (ad (11))] (q_one HU HA l O39 (x := 11) (by decide)) rfl rfl (Nat.le_of_ble_eq_true rfl) (by omega) gM_O (q := vwCl[6]) rfl rfl dX4_part_220 (fun S40 O40 => ?_)
                          obtain ⟨F40, eF40⟩ : ∃ Fz, Fz = va_up F39 11 (1) := ⟨_, rfl⟩
                          rw [← eF40] at O40
                          have v40_11 : F40 11 = 1 := by rw [eF40, va_up_self]
                          have v40_3 : F40 3 = F 3 := (congrFun eF40 3).trans ((va_up_ne _ _ (by omega)).trans v39_3)
                          have v40_4 : F40 4 = F 4 := (congrFun eF40 4).trans ((va_up_ne _ _ (by omega)).trans v39_4)
                          have v40_5 : F40 5 = ww := (congrFun eF40 5).trans ((va_up_ne _ _ (by omega)).trans v39_5)
                          have v40_10 : F40 10 = ww := (congrFun eF40 10).trans ((va_up_ne _ _ (by omega)).trans v39_10)
                          clear eF40
                          refine z_aload_n X 2 rfl rfl dX4_part_223 ?_
                          refine z_callVi X zm_X4_keep zw759 zp28 zw757 (zFit_of (by decide) (by decide)) [] (q_keep HU HA l O40 (mG_F G1 (F9 := F40) (v40_3.trans (rfl : F 3 = F 3).symm) (v40_4.trans (rfl : F 4 = F 4).symm)) hS hlt (p := ww) (q := 1) v40_10 v40_11 bww (zbox_1 HU HA)) rfl rfl (Nat.le_of_ble_eq_true rfl) (by omega) gM_O (q := vwCl[6]) rfl rfl dX4_part_224 (fun z41 S41 hz41 => ?_)
                          exact E S41 (Or.inr (Or.inr (Or.inr ⟨hd1, hlt, by omega, hz41.1, ww, hz41.2, Or.inr (Or.inr (Or.inr ⟨by omega, xx, hsq, Or.inl ⟨by omega, by rcases hb01 with q | q; exact q.2; omega, ww, eww, by rw [if_neg (by omega)]⟩⟩))⟩))) rfl dX4_part_227
                        | succ kloop9 ihloop9 =>
                          intro i2 fs lv ks e1loop9 e2loop9 f4 hlvloop9
                          refine z_sub ks hlvloop9 ?_
                          refine z_iload X 0 rfl dX4_part_126 ?_
                          refine z_sipush X (n := 880) (by decide) dX4_part_128 ?_
                          refine z_icmp_ge X (tgt := 172) (by omega) (by omega) dX4_part_131 (by decide) (fun hb131 => absurd hb131 (by omega)) (fun hb131 => ?_)
                          refine z_aload_n X 2 rfl rfl dX4_part_134 ?_
                          refine z_get X zinX4 0 (by omega) gM_O (ci := 6) rfl 7 (by decide) (ref := "TowerFieldsModel") zw678 rfl rfl dX4_part_135 ?_
                          refine z_iload X 0 rfl dX4_part_138 ?_
                          refine z_iload X 0 rfl dX4_part_140 ?_
                          refine z_bipush X (n := 40) (by decide) dX4_part_142 ?_
                          refine z_iadd X dX4_part_144 ?_
                          refine z_sipush X (n := 880) (by decide) dX4_part_145 ?_
                          refine z_icmp_ge X (tgt := 164) (by omega) (by omega) dX4_part_148 (by decide) (fun hb148 => ?_) (fun hb148 => ?_)
                          · refine z_iconst X (n := 0) dX4_part_164 ?_
                            refine zn_st X (by decide) 880 rfl (by omega) (by omega) (0) rfl (fa S11 5 ((va_up fs (i2).toNat (0)))) (fa_st _ _ _ _ _) dX4_part_165 ?_
                            refine z_iinc X [(4, .int (iZ (i2 + 1))), (3, .int (iZ (b))), (0, .ref (ad 0)), (1, .int (iZ (n))), (2, .int (iZ (kp)))] 0 rfl rfl (by decide) dX4_part_166 ?_
                            refine z_goto X (tgt := 126) dX4_part_169 (by decide) ?_
                            refine ihloop9 (i2 + 1) _ _ [0, 1, 2, 3, 4] (by omega) (by omega) (fun j hj => ?_) rfl
                            by_cases e : j = i2.toNat
                            · rw [e, va_up_self, if_pos (by omega), if_neg (by omega)]
                            · rw [va_up_ne _ _ e, f4 j hj]
                              by_cases e2 : (j : Int) < i2
                              · rw [if_pos e2, if_pos (show (j : Int) < i2 + 1 by omega)]
                              · rw [if_neg e2, if_neg (show ¬ (j : Int) < i2 + 1 by omega)]
                          · refine z_aload_n X 2 rfl rfl dX4_part_151 ?_
                            refine z_get X zinX4 0 (by omega) gM_O (ci := 6) rfl 7 (by decide) (ref := "TowerFieldsModel") zw678 rfl rfl dX4_part_152 ?_
                            refine z_iload X 0 rfl dX4_part_155 ?_
                            refine z_bipush X (n := 40) (by decide) dX4_part_157 ?_
                            refine z_iadd X dX4_part_159 ?_
                            refine zn_ld X (by decide) 880 rfl (by omega) (by omega) (fs (i2 + 40).toNat) (by rw [fa_at]) dX4_part_160 ?_
                            refine z_goto X (tgt := 165) dX4_part_161 (by decide) ?_
                            refine zn_st X (by decide) 880 rfl (by omega) (by omega) (fs (i2 + 40).toNat) rfl (fa S11 5 ((va_up fs (i2).toNat (fs (i2 + 40).toNat)))) (fa_st _ _ _ _ _) dX4_part_165 ?_
                            refine z_iinc X [(4, .int (iZ (i2 + 1))), (3, .int (iZ (b))), (0, .ref (ad 0)), (1, .int (iZ (n))), (2, .int (iZ (kp)))] 0 rfl rfl (by decide) dX4_part_166 ?_
                            refine z_goto X (tgt := 126) dX4_part_169 (by decide) ?_
                            refine ihloop9 (i2 + 1) _ _ [0, 1, 2, 3, 4] (by omega) (by omega) (fun j hj => ?_) rfl
                            by_cases e : j = i2.toNat
                            · rw [e, va_up_self, if_pos (by omega), if_pos (by omega)]
                              rw [f4 _ (by omega), if_neg (by omega)]
                              exact congrArg (S11.1 5) (by omega)
                            · rw [va_up_ne _ _ e, f4 j hj]
                              by_cases e2 : (j : Int) < i2
                              · rw [if_pos e2, if_pos (show (j : Int) < i2 + 1 by omega)]
                              · rw [if_neg e2, if_neg (show ¬ (j : Int) < i2 + 1 by omega)]
                      exact loop9 880 (0) (S11.1 5) _ [0, 1, 2, 3, 4] (by omega) (by omega) (fun j hj => by rw [if_neg (by omega)]) rfl
                | succ kloop ihloop =>
                  intro i b lv ks e1loop e2loop h3 hlvloop
                  refine z_sub ks hlvloop ?_
                  refine z_iload X 0 rfl dX4_part_81 ?_
                  refine z_bipush X (n := 40) (by decide) dX4_part_83 ?_
                  refine z_icmp_ge X (tgt := 114) (by omega) (by omega) dX4_part_85 (by decide) (fun hb85 => absurd hb85 (by omega)) (fun hb85 => ?_)
                  refine z_iload_n X 1 rfl rfl dX4_part_88 ?_
                  refine z_if_eq X (tgt := 114) (by omega) dX4_part_89 (by decide) (fun hb89 => ?_) (fun hb89 => ?_)
                  · have hb01 : (b = 1 ∧ ca xx 0 = 0) ∨ (b = 0 ∧ ca xx 0 ≠ 0) := by
                      rcases h3 with ⟨q1, q2⟩ | ⟨q1, k, q2, q3⟩
                      · omega
                      · exact Or.inr ⟨q1, fun q => q3 (by rw [q, mp_zero HU])⟩
                    have hby : b = 0 ∨ b = 1 := Or.inl (by omega)
                    refine z_iload_n X 4 rfl rfl dX4_part_114 ?_
                    refine z_iconst X (n := 3) dX4_part_115 ?_
                    refine z_icmp_ne X (tgt := 172) (by omega) (by omega) dX4_part_116 (by decide) (fun hb116 => ?_) (fun hb116 => ?_)
                    · refine z_iload_n X 4 rfl rfl dX4_part_172 ?_
                      refine z_iconst X (n := 4) dX4_part_173 ?_
                      refine z_icmp_ne X (tgt := 204) (by omega) (by omega) dX4_part_174 (by decide) (fun hb174 => ?_) (fun hb174 => ?_)
                      · refine z_aload_n X 2 rfl rfl dX4_part_204 ?_
                        refine z_get X zinX4 0 (by omega) gM_O (ci := 6) rfl 12 (by decide) (ref := "TowerFieldsModel") zw683 rfl rfl dX4_part_205 ?_
                        refine z_aload_n X 2 rfl rfl dX4_part_208 ?_
                        refine z_get X zinX4 0 (by omega) gM_O (ci := 6) rfl 7 (by decide) (ref := "TowerFieldsModel") zw678 rfl rfl dX4_part_209 ?_
                        refine z_callSv X zm_X4_copy zw806 zw805 (zFit_of (by decide) (by decide)) [.ref (ad (10)), .ref (ad (5))] (q_copy HU HA l O11 (x := 10) (y := 5) (by decide) (by decide) (by omega)) rfl rfl (Nat.le_of_ble_eq_true rfl) dX4_part_212 (fun S42 O42 => ?_)
                        obtain ⟨F42, eF42⟩ : ∃ Fz, Fz = va_up F11 10 (F11 5) := ⟨_, rfl⟩
                        rw [← eF42] at O42
                        have v42_10 : F42 10 = xx := by rw [eF42, va_up_self, exx.symm]
                        have v42_3 : F42 3 = F 3 := (congrFun eF42 3).trans ((va_up_ne _ _ (by omega)).trans v11_3)
                        have v42_4 : F42 4 = F 4 := (congrFun eF42 4).trans ((va_up_ne _ _ (by omega)).trans v11_4)
                        have v42_5 : F42 5 = xx := (congrFun eF42 5).trans ((va_up_ne _ _ (by omega)).trans exx.symm)
                        clear eF42
                        refine z_aload_n X 2 rfl rfl dX4_part_215 ?_
                        refine z_aload_n X 2 rfl rfl dX4_part_216 ?_
                        refine z_get X zinX4 0 (by omega) gM_O (ci := 6) rfl 13 (by decide) (ref := "TowerFieldsModel") zw684 rfl rfl dX4_part_217 ?_
                        refine z_callVv X zm_X4_one zw752 zp27 zw750 (zFit_of (by decide) (by decide)) [.ref (ad (11))] (q_one HU HA l O42 (x := 11) (by decide)) rfl rfl (Nat.le_of_ble_eq_true rfl) (by omega) gM_O (q := vwCl[6]) rfl rfl dX4_part_220 (fun S43 O43 => ?_)
                        obtain ⟨F43, eF43⟩ : ∃ Fz, Fz = va_up F42 11 (1) := ⟨_, rfl⟩
                        rw [← eF43] at O43
                        have v43_11 : F43 11 = 1 := by rw [eF43, va_up_self]
                        have v43_3 : F43 3 = F 3 := (congrFun eF43 3).trans ((va_up_ne _ _ (by omega)).trans v42_3)
                        have v43_4 : F43 4 = F 4 := (congrFun eF43 4).trans ((va_up_ne _ _ (by omega)).trans v42_4)
                        have v43_5 : F43 5 = xx := (congrFun eF43 5).trans ((va_up_ne _ _ (by omega)).trans v42_5)
                        have v43_10 : F43 10 = xx := (congrFun eF43 10).trans ((va_up_ne _ _ (by omega)).trans v42_10)
                        clear eF43
                        refine z_aload_n X 2 rfl rfl dX4_part_223 ?_
                        refine z_callVi X zm_X4_keep zw759 zp28 zw757 (zFit_of (by decide) (by decide)) [] (q_keep HU HA l O43 (mG_F G1 (F9 := F43) (v43_3.trans (rfl : F 3 = F 3).symm) (v43_4.trans (rfl : F 4 = F 4).symm)) hS hlt (p := xx) (q := 1) v43_10 v43_11 bx (zbox_1 HU HA)) rfl rfl (Nat.le_of_ble_eq_true rfl) (by omega) gM_O (q := vwCl[6]) rfl rfl dX4_part_224 (fun z44 S44 hz44 => ?_)
                        exact E S44 (Or.inr (Or.inr (Or.inr ⟨hd1, hlt, by omega, hz44.1, xx, hz44.2, by
                          by_cases k2 : kp = 2
                          · exact Or.inr (Or.inr (Or.inl ⟨k2, hsq⟩))
                          · exact absurd k2 (by omega)⟩))) rfl dX4_part_227
                      · refine z_aload_n X 2 rfl rfl dX4_part_177 ?_
                        refine z_aload_n X 2 rfl rfl dX4_part_178 ?_
                        refine z_get X zinX4 0 (by omega) gM_O (ci := 6) rfl 7 (by decide) (ref := "TowerFieldsModel") zw678 rfl rfl dX4_part_179 ?_
                        refine z_callVv X zm_X4_one zw752 zp27 zw750 (zFit_of (by decide) (by decide)) [.ref (ad (5))] (q_one HU HA l O11 (x := 5) (by decide)) rfl rfl (Nat.le_of_ble_eq_true rfl) (by omega) gM_O (q := vwCl[6]) rfl rfl dX4_part_182 (fun S45 O45 => ?_)
                        obtain ⟨F45, eF45⟩ : ∃ Fz, Fz = va_up F11 5 (1) := ⟨_, rfl⟩
                        rw [← eF45] at O45
                        have v45_5 : F45 5 = 1 := by rw [eF45, va_up_self]
                        have v45_3 : F45 3 = F 3 := (congrFun eF45 3).trans ((va_up_ne _ _ (by omega)).trans v11_3)
                        have v45_4 : F45 4 = F 4 := (congrFun eF45 4).trans ((va_up_ne _ _ (by omega)).trans v11_4)
                        clear eF45
                        refine z_iload_n X 1 rfl rfl dX4_part_185 ?_
                        refine z_if_eq X (tgt := 204) (by omega) dX4_part_186 (by decide) (fun hb186 => ?_) (fun hb186 => ?_)
                        · refine z_aload_n X 2 rfl rfl dX4_part_204 ?_
                          refine z_get X zinX4 0 (by omega) gM_O (ci := 6) rfl 12 (by decide) (ref := "TowerFieldsModel") zw683 rfl rfl dX4_part_205 ?_
                          refine z_aload_n X 2 rfl rfl dX4_part_208 ?_
                          refine z_get X zinX4 0 (by omega) gM_O (ci := 6) rfl 7 (by decide) (ref := "TowerFieldsModel") zw678 rfl rfl dX4_part_209 ?_
                          refine z_callSv X zm_X4_copy zw806 zw805 (zFit_of (by decide) (by decide)) [.ref (ad (10)), .ref (ad (5))] (q_copy HU HA l O45 (x := 10) (y := 5) (by decide) (by decide) (by omega)) rfl rfl (Nat.le_of_ble_eq_true rfl) dX4_part_212 (fun S46 O46 => ?_)
                          obtain ⟨F46, eF46⟩ : ∃ Fz, Fz = va_up F45 10 (F45 5) := ⟨_, rfl⟩
                          rw [← eF46] at O46
                          have v46_10 : F46 10 = 1 := by rw [eF46, va_up_self, v45_5]
                          have v46_3 : F46 3 = F 3 := (congrFun eF46 3).trans ((va_up_ne _ _ (by omega)).trans v45_3)
                          have v46_4 : F46 4 = F 4 := (congrFun eF46 4).trans ((va_up_ne _ _ (by omega)).trans v45_4)
                          have v46_5 : F46 5 = 1 := (congrFun eF46 5).trans ((va_up_ne _ _ (by omega)).trans v45_5)
                          clear eF46
                          refine z_aload_n X 2 rfl rfl dX4_part_215 ?_
                          refine z_aload_n X 2 rfl rfl dX4_part_216 ?_
                          refine z_get X zinX4 0 (by omega) gM_O (ci := 6) rfl 13 (by decide) (ref := "TowerFieldsModel") zw684 rfl rfl dX4_part_217 ?_
                          refine z_callVv X zm_X4_one zw752 zp27 zw750 (zFit_of (by decide) (by decide)) [.ref (ad (11))] (q_one HU HA l O46 (x := 11) (by decide)) rfl rfl (Nat.le_of_ble_eq_true rfl) (by omega) gM_O (q := vwCl[6]) rfl rfl dX4_part_220 (fun S47 O47 => ?_)
                          obtain ⟨F47, eF47⟩ : ∃ Fz, Fz = va_up F46 11 (1) := ⟨_, rfl⟩
                          rw [← eF47] at O47
                          have v47_11 : F47 11 = 1 := by rw [eF47, va_up_self]
                          have v47_3 : F47 3 = F 3 := (congrFun eF47 3).trans ((va_up_ne _ _ (by omega)).trans v46_3)
                          have v47_4 : F47 4 = F 4 := (congrFun eF47 4).trans ((va_up_ne _ _ (by omega)).trans v46_4)
                          have v47_5 : F47 5 = 1 := (congrFun eF47 5).trans ((va_up_ne _ _ (by omega)).trans v46_5)
                          have v47_10 : F47 10 = 1 := (congrFun eF47 10).trans ((va_up_ne _ _ (by omega)).trans v46_10)
                          clear eF47
                          refine z_aload_n X 2 rfl rfl dX4_part_223 ?_
                          refine z_callVi X zm_X4_keep zw759 zp28 zw757 (zFit_of (by decide) (by decide)) [] (q_keep HU HA l O47 (mG_F G1 (F9 := F47) (v47_3.trans (rfl : F 3 = F 3).symm) (v47_4.trans (rfl : F 4 = F 4).symm)) hS hlt (p := 1) (q := 1) v47_10 v47_11 (zbox_1 HU HA) (zbox_1 HU HA)) rfl rfl (Nat.le_of_ble_eq_true rfl) (by omega) gM_O (q := vwCl[6]) rfl rfl dX4_part_224 (fun z48 S48 hz48 => ?_)
                          exact E S48 (Or.inr (Or.inr (Or.inr ⟨hd1, hlt, by omega, hz48.1, 1, hz48.2, Or.inr (Or.inr (Or.inr ⟨by omega, xx, hsq, Or.inr ⟨by rcases hb01 with q | q; omega; exact fun q9 => q.2 q9.2, by rw [if_pos (by omega)]⟩⟩))⟩))) rfl dX4_part_227
                        · refine z_aload_n X 2 rfl rfl dX4_part_189 ?_
                          refine z_get X zinX4 0 (by omega) gM_O (ci := 6) rfl 7 (by decide) (ref := "TowerFieldsModel") zw678 rfl rfl dX4_part_190 ?_
                          refine z_callSv X zm_X4_clear zw748 zw747 (zFit_of (by decide) (by decide)) [.ref (ad (5))] (q_clear HU HA l O45 (x := 5) (by decide)) rfl rfl (Nat.le_of_ble_eq_true rfl) dX4_part_193 (fun S49 O49 => ?_)
                          obtain ⟨F49, eF49⟩ : ∃ Fz, Fz = va_up F45 5 (0) := ⟨_, rfl⟩
                          rw [← eF49] at O49
                          have v49_5 : F49 5 = 0 := by rw [eF49, va_up_self]
                          have v49_3 : F49 3 = F 3 := (congrFun eF49 3).trans ((va_up_ne _ _ (by omega)).trans v45_3)
                          have v49_4 : F49 4 = F 4 := (congrFun eF49 4).trans ((va_up_ne _ _ (by omega)).trans v45_4)
                          clear eF49
                          refine z_aload_n X 2 rfl rfl dX4_part_196 ?_
                          refine z_get X zinX4 0 (by omega) gM_O (ci := 6) rfl 7 (by decide) (ref := "TowerFieldsModel") zw678 rfl rfl dX4_part_197 ?_
                          refine z_bipush X (n := 40) (by decide) dX4_part_200 ?_
                          refine z_iconst X (n := 1) dX4_part_202 ?_
                          refine zn_st X (by decide) 880 rfl (by omega) (by omega) (1) rfl (fa S49 5 (va_up (S49.1 5) (40 : Int).toNat (1))) rfl dX4_part_203 ?_
                          obtain ⟨S50, eS50⟩ : ∃ Sz, Sz = fa S49 5 (va_up (S49.1 5) (40 : Int).toNat (1)) := ⟨_, rfl⟩
                          rw [← eS50]
                          have O50 := zO_put HU HA O49 (x := 5) (by decide) v49_5 (i := 1) (j := 0) (by omega) (by omega) (1)
                          rw [show fa S49 5 (va_up (S49.1 5) (40 * 1 + 0) (1)) = S50 from eS50.symm] at O50
                          obtain ⟨F50, eF50⟩ : ∃ Fz, Fz = va_up F49 5 (mp_m ca (mp_m cu (1) 0) 1) := ⟨_, rfl⟩
                          rw [← eF50] at O50
                          have v50_5 : F50 5 = mp_m ca (mp_m cu (1) 0) 1 := by rw [eF50, va_up_self]
                          have v50_3 : F50 3 = F 3 := (congrFun eF50 3).trans ((va_up_ne _ _ (by omega)).trans v49_3)
                          have v50_4 : F50 4 = F 4 := (congrFun eF50 4).trans ((va_up_ne _ _ (by omega)).trans v49_4)
                          clear eF50
                          refine z_aload_n X 2 rfl rfl dX4_part_204 ?_
                          refine z_get X zinX4 0 (by omega) gM_O (ci := 6) rfl 12 (by decide) (ref := "TowerFieldsModel") zw683 rfl rfl dX4_part_205 ?_
                          refine z_aload_n X 2 rfl rfl dX4_part_208 ?_
                          refine z_get X zinX4 0 (by omega) gM_O (ci := 6) rfl 7 (by decide) (ref := "TowerFieldsModel") zw678 rfl rfl dX4_part_209 ?_
                          refine z_callSv X zm_X4_copy zw806 zw805 (zFit_of (by decide) (by decide)) [.ref (ad (10)), .ref (ad (5))] (q_copy HU HA l O50 (x := 10) (y := 5) (by decide) (by decide) (by omega)) rfl rfl (Nat.le_of_ble_eq_true rfl) dX4_part_212 (fun S51 O51 => ?_)
                          obtain ⟨F51, eF51⟩ : ∃ Fz, Fz = va_up F50 10 (F50 5) := ⟨_, rfl⟩
                          rw [← eF51] at O51
                          have v51_10 : F51 10 = mp_m ca (mp_m cu (1) 0) 1 := by rw [eF51, va_up_self, v50_5]
                          have v51_3 : F51 3 = F 3 := (congrFun eF51 3).trans ((va_up_ne _ _ (by omega)).trans v50_3)
                          have v51_4 : F51 4 = F 4 := (congrFun eF51 4).trans ((va_up_ne _ _ (by omega)).trans v50_4)
                          have v51_5 : F51 5 = mp_m ca (mp_m cu (1) 0) 1 := (congrFun eF51 5).trans ((va_up_ne _ _ (by omega)).trans v50_5)
                          clear eF51
                          refine z_aload_n X 2 rfl rfl dX4_part_215 ?_
                          refine z_aload_n X 2 rfl rfl dX4_part_216 ?_
                          refine z_get X zinX4 0 (by omega) gM_O (ci := 6) rfl 13 (by decide) (ref := "TowerFieldsModel") zw684 rfl rfl dX4_part_217 ?_
                          refine z_callVv X zm_X4_one zw752 zp27 zw750 (zFit_of (by decide) (by decide)) [.ref (ad (11))] (q_one HU HA l O51 (x := 11) (by decide)) rfl rfl (Nat.le_of_ble_eq_true rfl) (by omega) gM_O (q := vwCl[6]) rfl rfl dX4_part_220 (fun S52 O52 => ?_)
                          obtain ⟨F52, eF52⟩ : ∃ Fz, Fz = va_up F51 11 (1) := ⟨_, rfl⟩
                          rw [← eF52] at O52
                          have v52_11 : F52 11 = 1 := by rw [eF52, va_up_self]
                          have v52_3 : F52 3 = F 3 := (congrFun eF52 3).trans ((va_up_ne _ _ (by omega)).trans v51_3)
                          have v52_4 : F52 4 = F 4 := (congrFun eF52 4).trans ((va_up_ne _ _ (by omega)).trans v51_4)
                          have v52_5 : F52 5 = mp_m ca (mp_m cu (1) 0) 1 := (congrFun eF52 5).trans ((va_up_ne _ _ (by omega)).trans v51_5)
                          have v52_10 : F52 10 = mp_m ca (mp_m cu (1) 0) 1 := (congrFun eF52 10).trans ((va_up_ne _ _ (by omega)).trans v51_10)
                          clear eF52
                          refine z_aload_n X 2 rfl rfl dX4_part_223 ?_
                          refine z_callVi X zm_X4_keep zw759 zp28 zw757 (zFit_of (by decide) (by decide)) [] (q_keep HU HA l O52 (mG_F G1 (F9 := F52) (v52_3.trans (rfl : F 3 = F 3).symm) (v52_4.trans (rfl : F 4 = F 4).symm)) hS hlt (p := mp_m ca (mp_m cu (1) 0) 1) (q := 1) v52_10 v52_11 (zbox_m HU HA _ (by omega) (by omega)) (zbox_1 HU HA)) rfl rfl (Nat.le_of_ble_eq_true rfl) (by omega) gM_O (q := vwCl[6]) rfl rfl dX4_part_224 (fun z53 S53 hz53 => ?_)
                          exact E S53 (Or.inr (Or.inr (Or.inr ⟨hd1, hlt, by omega, hz53.1, mp_m ca (mp_m cu (1) 0) 1, hz53.2, by
                            have hx0 : ca xx 0 = 0 := by rcases hb01 with q | q; exact q.2; omega
                            obtain ⟨w9, hw9⟩ := (ms_t_D HA).mpr hx0
                            exact Or.inr (Or.inr (Or.inr ⟨by omega, xx, hsq, Or.inl ⟨by omega, hx0, w9, hw9, by rw [if_pos (by omega), ms_t_e HU]⟩⟩))⟩))) rfl dX4_part_227
                    · refine z_iload_n X 1 rfl rfl dX4_part_119 ?_
                      refine z_if_eq X (tgt := 172) (by omega) dX4_part_120 (by decide) (fun hb120 => ?_) (fun hb120 => ?_)
                      · refine z_iload_n X 4 rfl rfl dX4_part_172 ?_
                        refine z_iconst X (n := 4) dX4_part_173 ?_
                        refine z_icmp_ne X (tgt := 204) (by omega) (by omega) dX4_part_174 (by decide) (fun hb174 => ?_) (fun hb174 => absurd hb174 (by omega))
                        refine z_aload_n X 2 rfl rfl dX4_part_204 ?_
                        refine z_get X zinX4 0 (by omega) gM_O (ci := 6) rfl 12 (by decide) (ref := "TowerFieldsModel") zw683 rfl rfl dX4_part_205 ?_
                        refine z_aload_n X 2 rfl rfl dX4_part_208 ?_
                        refine z_get X zinX4 0 (by omega) gM_O (ci := 6) rfl 7 (by decide) (ref := "TowerFieldsModel") zw678 rfl rfl dX4_part_209 ?_
                        refine z_callSv X zm_X4_copy zw806 zw805 (zFit_of (by decide) (by decide)) [.ref (ad (10)), .ref (ad (5))] (q_copy HU HA l O11 (x := 10) (y := 5) (by decide) (by decide) (by omega)) rfl rfl (Nat.le_of_ble_eq_true rfl) dX4_part_212 (fun S54 O54 => ?_)
                        obtain ⟨F54, eF54⟩ : ∃ Fz, Fz = va_up F11 10 (F11 5) := ⟨_, rfl⟩
                        rw [← eF54] at O54
                        have v54_10 : F54 10 = xx := by rw [eF54, va_up_self, exx.symm]
                        have v54_3 : F54 3 = F 3 := (congrFun eF54 3).trans ((va_up_ne _ _ (by omega)).trans v11_3)
                        have v54_4 : F54 4 = F 4 := (congrFun eF54 4).trans ((va_up_ne _ _ (by omega)).trans v11_4)
                        have v54_5 : F54 5 = xx := (congrFun eF54 5).trans ((va_up_ne _ _ (by omega)).trans exx.symm)
                        clear eF54
                        refine z_aload_n X 2 rfl rfl dX4_part_215 ?_
                        refine z_aload_n X 2 rfl rfl dX4_part_216 ?_
                        refine z_get X zinX4 0 (by omega) gM_O (ci := 6) rfl 13 (by decide) (ref := "TowerFieldsModel") zw684 rfl rfl dX4_part_217 ?_
                        refine z_callVv X zm_X4_one zw752 zp27 zw750 (zFit_of (by decide) (by decide)) [.ref (ad (11))] (q_one HU HA l O54 (x := 11) (by decide)) rfl rfl (Nat.le_of_ble_eq_true rfl) (by omega) gM_O (q := vwCl[6]) rfl rfl dX4_part_220 (fun S55 O55 => ?_)
                        obtain ⟨F55, eF55⟩ : ∃ Fz, Fz = va_up F54 11 (1) := ⟨_, rfl⟩
                        rw [← eF55] at O55
                        have v55_11 : F55 11 = 1 := by rw [eF55, va_up_self]
                        have v55_3 : F55 3 = F 3 := (congrFun eF55 3).trans ((va_up_ne _ _ (by omega)).trans v54_3)
                        have v55_4 : F55 4 = F 4 := (congrFun eF55 4).trans ((va_up_ne _ _ (by omega)).trans v54_4)
                        have v55_5 : F55 5 = xx := (congrFun eF55 5).trans ((va_up_ne _ _ (by omega)).trans v54_5)
                        have v55_10 : F55 10 = xx := (congrFun eF55 10).trans ((va_up_ne _ _ (by omega)).trans v54_10)
                        clear eF55
                        refine z_aload_n X 2 rfl rfl dX4_part_223 ?_
                        refine z_callVi X zm_X4_keep zw759 zp28 zw757 (zFit_of (by decide) (by decide)) [] (q_keep HU HA l O55 (mG_F G1 (F9 := F55) (v55_3.trans (rfl : F 3 = F 3).symm) (v55_4.trans (rfl : F 4 = F 4).symm)) hS hlt (p := xx) (q := 1) v55_10 v55_11 bx (zbox_1 HU HA)) rfl rfl (Nat.le_of_ble_eq_true rfl) (by omega) gM_O (q := vwCl[6]) rfl rfl dX4_part_224 (fun z56 S56 hz56 => ?_)
                        exact E S56 (Or.inr (Or.inr (Or.inr ⟨hd1, hlt, by omega, hz56.1, xx, hz56.2, Or.inr (Or.inr (Or.inr ⟨by omega, xx, hsq, Or.inr ⟨by rcases hb01 with q | q; omega; exact fun q9 => q.2 q9.2, by rw [if_neg (by omega)]⟩⟩))⟩))) rfl dX4_part_227
                      · refine z_iconst X (n := 0) dX4_part_123 ?_
                        refine z_istore X [(4, .int (iZ (0))), (3, .int (iZ (b))), (0, .ref (ad 0)), (1, .int (iZ (n))), (2, .int (iZ (kp)))] rfl (by decide) dX4_part_124 ?_
                        obtain ⟨ww, eww⟩ : mp_D (ms_t ca) xx := (ms_t_D HA).mpr (by
                          rcases hb01 with q | q
                          · exact q.2
                          · omega)
                        have hww : ∀ r, ca xx (r + 1) = ca ww r := fun r => by rw [eww, ms_t_mul HA, if_pos (by omega), Nat.add_sub_cancel]
                        have bww : zbb cu ca 7 7 ww := ⟨mp_sz_le HA (fun r hr => by rw [← hww]; exact mp_sz_out HA (Nat.le_trans bx.1 (by omega))), mp_xz_le HU HA (fun r => by rw [← hww]; exact Nat.le_trans (mp_xz_row HU HA _ _) bx.2)⟩
                        rw [← fa_self S11 5]
                        have loop9 : ∀ (kloop9 : Nat) (i2 : Int) (fs : Nat → FP) (lv : List (Nat × Value)) (ks : List Nat), i2 + kloop9 = 880 → 0 ≤ i2 → (∀ j : Nat, j < 880 → fs j = if (j : Int) < i2 then (if j + 40 < 880 then S11.1 5 (j + 40) else 0) else S11.1 5 j) → lv_pick lv ks = [(4, .int (iZ (i2))), (3, .int (iZ (b))), (0, .ref (ad 0)), (1, .int (iZ (n))), (2, .int (iZ (kp)))] → Z p l e (zRm 5) s m args below meth c 5 D 18 ad A 0 0 Q 126 lv [] (gM ad cI (fa S11 5 fs)) := by
                          intro kloop9
                          induction kloop9 with
                          | zero =>
                            intro i2 fs lv ks e1loop9 e2loop9 f4 hlvloop9
                            refine z_sub ks hlvloop9 ?_
                            refine z_iload X 0 rfl dX4_part_126 ?_
                            refine z_sipush X (n := 880) (by decide) dX4_part_128 ?_
                            refine z_icmp_ge X (tgt := 172) (by omega) (by omega) dX4_part_131 (by decide) (fun hb131 => ?_) (fun hb131 => absurd hb131 (by omega))
                            have O57 := zO_fa HU HA O11 (x := 5) (by decide) fs (a := ww) (zbb_le bww (by omega) (by omega)) (fun j hj => by
                              rw [f4 j hj, if_pos (by omega), mk_cf' HU HA (Nat.le_trans bww.2 (by omega))]
                              by_cases e : j + 40 < 880
                              · rw [if_pos e, zO_at O11 (x := 5) (by decide) _ (by omega), exx.symm, mk_cf' HU HA (Nat.le_trans bx.2 (by omega)), show (j + 40) / 40 = j / 40 + 1 by omega, show (j + 40) % 40 = j % 40 by omega, hww]
                              · rw [if_neg e, mp_sz_out HA (a := ww) (Nat.le_trans bww.1 (by omega)), mp_zero HU])
                            obtain ⟨S57, eS57⟩ : ∃ Sz, Sz = fa S11 5 fs := ⟨_, rfl⟩
                            rw [← eS57] at O57 ⊢
                            obtain ⟨F57, eF57⟩ : ∃ Fz, Fz = va_up F11 5 (ww) := ⟨_, rfl⟩
                            rw [← eF57] at O57
                            have v57_5 : F57 5 = ww := by rw [eF57, va_up_self]
                            have v57_3 : F57 3 = F 3 := (congrFun eF57 3).trans ((va_up_ne _ _ (by omega)).trans v11_3)
                            have v57_4 : F57 4 = F 4 := (congrFun eF57 4).trans ((va_up_ne _ _ (by omega)).trans v11_4)
                            clear eF57
                            refine z_iload_n X 4 rfl rfl dX4_part_172 ?_
                            refine z_iconst X (n := 4) dX4_part_173 ?_
                            refine z_icmp_ne X (tgt := 204) (by omega) (by omega) dX4_part_174 (by decide) (fun hb174 => ?_) (fun hb174 => absurd hb174 (by omega))
                            refine z_aload_n X 2 rfl rfl dX4_part_204 ?_
                            refine z_get X zinX4 0 (by omega) gM_O (ci := 6) rfl 12 (by decide) (ref := "TowerFieldsModel") zw683 rfl rfl dX4_part_205 ?_
                            refine z_aload_n X 2 rfl rfl dX4_part_208 ?_
                            refine z_get X zinX4 0 (by omega) gM_O (ci := 6) rfl 7 (by decide) (ref := "TowerFieldsModel") zw678 rfl rfl dX4_part_209 ?_
                            refine z_callSv X zm_X4_copy zw806 zw805 (zFit_of (by decide) (by decide)) [.ref (ad (10)), .ref (ad (5))] (q_copy HU HA l O57 (x := 10) (y := 5) (by decide) (by decide) (by omega)) rfl rfl (Nat.le_of_ble_eq_true rfl) dX4_part_212 (fun S58 O58 => ?_)
                            obtain ⟨F58, eF58⟩ : ∃ Fz, Fz = va_up F57 10 (F57 5) := ⟨_, rfl⟩
                            rw [← eF58] at O58
                            have v58_10 : F58 10 = ww := by rw [eF58, va_up_self, v57_5]
                            have v58_3 : F58 3 = F 3 := (congrFun eF58 3).trans ((va_up_ne _ _ (by omega)).trans v57_3)
                            have v58_4 : F58 4 = F 4 := (congrFun eF58 4).trans ((va_up_ne _ _ (by omega)).trans v57_4)
                            have v58_5 : F58 5 = ww := (congrFun eF58 5).trans ((va_up_ne _ _ (by omega)).trans v57_5)
                            clear eF58
                            refine z_aload_n X 2 rfl rfl dX4_part_215 ?_
                            refine z_aload_n X 2 rfl rfl dX4_part_216 ?_
                            refine z_get X zinX4 0 (by omega) gM_O (ci := 6) rfl 13 (by decide) (ref := "TowerFieldsModel") zw684 rfl rfl dX4_part_217 ?_
                            refine z_callVv X zm_X4_one zw752 zp27 zw750 (zFit_of (by decide) (by decide)) [.ref (ad (11))] (q_one HU HA l O58 (x := 11) (by decide)) rfl rfl (Nat.le_of_ble_eq_true rfl) (by omega) gM_O (q := vwCl[6]) rfl rfl dX4_part_220 (fun S59 O59 => ?_)
                            obtain ⟨F59, eF59⟩ : ∃ Fz, Fz = va_up F58 11 (1) := ⟨_, rfl⟩
                            rw [← eF59] at O59
                            have v59_11 : F59 11 = 1 := by rw [eF59, va_up_self]
                            have v59_3 : F59 3 = F 3 := (congrFun eF59 3).trans ((va_up_ne _ _ (by omega)).trans v58_3)
                            have v59_4 : F59 4 = F 4 := (congrFun eF59 4).trans ((va_up_ne _ _ (by omega)).trans v58_4)
                            have v59_5 : F59 5 = ww := (congrFun eF59 5).trans ((va_up_ne _ _ (by omega)).trans v58_5)
                            have v59_10 : F59 10 = ww := (congrFun eF59 10).trans ((va_up_ne _ _ (by omega)).trans v58_10)
                            clear eF59
                            refine z_aload_n X 2 rfl rfl dX4_part_223 ?_
                            refine z_callVi X zm_X4_keep zw759 zp28 zw757 (zFit_of (by decide) (by decide)) [] (q_keep HU HA l O59 (mG_F G1 (F9 := F59) (v59_3.trans (rfl : F 3 = F 3).symm) (v59_4.trans (rfl : F 4 = F 4).symm)) hS hlt (p := ww) (q := 1) v59_10 v59_11 bww (zbox_1 HU HA)) rfl rfl (Nat.le_of_ble_eq_true rfl) (by omega) gM_O (q := vwCl[6]) rfl rfl dX4_part_224 (fun z60 S60 hz60 => ?_)
                            exact E S60 (Or.inr (Or.inr (Or.inr ⟨hd1, hlt, by omega, hz60.1, ww, hz60.2, Or.inr (Or.inr (Or.inr ⟨by omega, xx, hsq, Or.inl ⟨by omega, by rcases hb01 with q | q; exact q.2; omega, ww, eww, by rw [if_neg (by omega)]⟩⟩))⟩))) rfl dX4_part_227
                          | succ kloop9 ihloop9 =>
                            intro i2 fs lv ks e1loop9 e2loop9 f4 hlvloop9
                            refine z_sub ks hlvloop9 ?_
                            refine z_iload X 0 rfl dX4_part_126 ?_
                            refine z_sipush X (n := 880) (by decide) dX4_part_128 ?_
                            refine z_icmp_ge X (tgt := 172) (by omega) (by omega) dX4_part_131 (by decide) (fun hb131 => absurd hb131 (by omega)) (fun hb131 => ?_)
                            refine z_aload_n X 2 rfl rfl dX4_part_134 ?_
                            refine z_get X zinX4 0 (by omega) gM_O (ci := 6) rfl 7 (by decide) (ref := "TowerFieldsModel") zw678 rfl rfl dX4_part_135 ?_
                            refine z_iload X 0 rfl dX4_part_138 ?_
                            refine z_iload X 0 rfl dX4_part_140 ?_
                            refine z_bipush X (n := 40) (by decide) dX4_part_142 ?_
                            refine z_iadd X dX4_part_144 ?_
                            refine z_sipush X (n := 880) (by decide) dX4_part_145 ?_
                            refine z_icmp_ge X (tgt := 164) (by omega) (by omega) dX4_part_148 (by decide) (fun hb148 => ?_) (fun hb148 => ?_)
                            · refine z_iconst X (n := 0) dX4_part_164 ?_
                              refine zn_st X (by decide) 880 rfl (by omega) (by omega) (0) rfl (fa S11 5 ((va_up fs (i2).toNat (0)))) (fa_st _ _ _ _ _) dX4_part_165 ?_
                              refine z_iinc X [(4, .int (iZ (i2 + 1))), (3, .int (iZ (b))), (0, .ref (ad 0)), (1, .int (iZ (n))), (2, .int (iZ (kp)))] 0 rfl rfl (by decide) dX4_part_166 ?_
                              refine z_goto X (tgt := 126) dX4_part_169 (by decide) ?_
                              refine ihloop9 (i2 + 1) _ _ [0, 1, 2, 3, 4] (by omega) (by omega) (fun j hj => ?_) rfl
                              by_cases e : j = i2.toNat
                              · rw [e, va_up_self, if_pos (by omega), if_neg (by omega)]
                              · rw [va_up_ne _ _ e, f4 j hj]
                                by_cases e2 : (j : Int) < i2
                                · rw [if_pos e2, if_pos (show (j : Int) < i2 + 1 by omega)]
                                · rw [if_neg e2, if_neg (show ¬ (j : Int) < i2 + 1 by omega)]
                            · refine z_aload_n X 2 rfl rfl dX4_part_151 ?_
                              refine z_get X zinX4 0 (by omega) gM_O (ci := 6) rfl 7 (by decide) (ref := "TowerFieldsModel") zw678 rfl rfl dX4_part_152 ?_
                              refine z_iload X 0 rfl dX4_part_155 ?_
                              refine z_bipush X (n := 40) (by decide) dX4_part_157 ?_
                              refine z_iadd X dX4_part_159 ?_
                              refine zn_ld X (by decide) 880 rfl (by omega) (by omega) (fs (i2 + 40).toNat) (by rw [fa_at]) dX4_part_160 ?_
                              refine z_goto X (tgt := 165) dX4_part_161 (by decide) ?_
                              refine zn_st X (by decide) 880 rfl (by omega) (by omega) (fs (i2 + 40).toNat) rfl (fa S11 5 ((va_up fs (i2).toNat (fs (i2 + 40).toNat)))) (fa_st _ _ _ _ _) dX4_part_165 ?_
                              refine z_iinc X [(4, .int (iZ (i2 + 1))), (3, .int (iZ (b))), (0, .ref (ad 0)), (1, .int (iZ (n))), (2, .int (iZ (kp)))] 0 rfl rfl (by decide) dX4_part_166 ?_
                              refine z_goto X (tgt := 126) dX4_part_169 (by decide) ?_
                              refine ihloop9 (i2 + 1) _ _ [0, 1, 2, 3, 4] (by omega) (by omega) (fun j hj => ?_) rfl
                              by_cases e : j = i2.toNat
                              · rw [e, va_up_self, if_pos (by omega), if_pos (by omega)]
                                rw [f4 _ (by omega), if_neg (by omega)]
                                exact congrArg (S11.1 5) (by omega)
                              · rw [va_up_ne _ _ e, f4 j hj]
                                by_cases e2 : (j : Int) < i2
                                · rw [if_pos e2, if_pos (show (j : Int) < i2 + 1 by omega)]
                                · rw [if_neg e2, if_neg (show ¬ (j : Int) < i2 + 1 by omega)]
                        exact loop9 880 (0) (S11.1 5) _ [0, 1, 2, 3, 4] (by omega) (by omega) (fun j hj => by rw [if_neg (by omega)]) rfl
                  · have y1 : S11.1 5 i.toNat = cu (ca xx 0) i.toNat := by rw [zO_at O11 (x := 5) (by decide) _ (by omega), exx.symm, mk_cf' HU HA (Nat.le_trans bx.2 (by omega)), show i.toNat / 40 = 0 by omega, show i.toNat % 40 = i.toNat by omega]
                    have g1 := vz_nn (S11.1 5 i.toNat)
                    have g2 := vz_lt (S11.1 5 i.toNat)
                    have g3 := @vz_z (S11.1 5 i.toNat)
                    refine z_aload_n X 2 rfl rfl dX4_part_92 ?_
                    refine z_get X zinX4 0 (by omega) gM_O (ci := 6) rfl 7 (by decide) (ref := "TowerFieldsModel") zw678 rfl rfl dX4_part_93 ?_
                    refine z_iload X 0 rfl dX4_part_96 ?_
                    refine zn_ld X (by decide) 880 rfl (by omega) (by omega) (S11.1 5 (i).toNat) rfl dX4_part_98 ?_
                    refine z_if_ne X (tgt := 106) (by omega) dX4_part_99 (by decide) (fun hb99 => ?_) (fun hb99 => ?_)
                    · refine z_iconst X (n := 0) dX4_part_106 ?_
                      refine z_istore_n X [(3, .int (iZ (0))), (4, .int (iZ (i))), (0, .ref (ad 0)), (1, .int (iZ (n))), (2, .int (iZ (kp)))] rfl rfl (by decide) dX4_part_107 ?_
                      refine z_iinc X [(4, .int (iZ (i + 1))), (3, .int (iZ (0))), (0, .ref (ad 0)), (1, .int (iZ (n))), (2, .int (iZ (kp)))] 1 rfl rfl (by decide) dX4_part_108 ?_
                      refine z_goto X (tgt := 81) dX4_part_111 (by decide) ?_
                      refine ihloop (i + 1) 0 _ [0, 1, 2, 3, 4] (by omega) (by omega) (Or.inr ⟨rfl, i.toNat, by omega, fun q => hb99 (g3.mpr (y1.trans q))⟩) rfl
                    · refine z_iconst X (n := 1) dX4_part_102 ?_
                      refine z_goto X (tgt := 107) dX4_part_103 (by decide) ?_
                      refine z_istore_n X [(3, .int (iZ (1))), (4, .int (iZ (i))), (0, .ref (ad 0)), (1, .int (iZ (n))), (2, .int (iZ (kp)))] rfl rfl (by decide) dX4_part_107 ?_
                      refine z_iinc X [(4, .int (iZ (i + 1))), (3, .int (iZ (1))), (0, .ref (ad 0)), (1, .int (iZ (n))), (2, .int (iZ (kp)))] 1 rfl rfl (by decide) dX4_part_108 ?_
                      refine z_goto X (tgt := 81) dX4_part_111 (by decide) ?_
                      refine ihloop (i + 1) 1 _ [0, 1, 2, 3, 4] (by omega) (by omega) (Or.inl ⟨rfl, fun k hk => ?_⟩) rfl
                      rcases h3 with ⟨p1, p2⟩ | ⟨p1, _⟩
                      · by_cases e : k = i.toNat
                        · rw [e, ← y1]; exact g3.mp (by omega)
                        · exact p2 k (by omega)
                      · omega
              exact loop 40 (0) 1 _ [0, 1, 2, 3, 4] (by omega) (by omega) (Or.inl ⟨rfl, fun k hk => by omega⟩) rfl
        · refine z_aload_n X 0 rfl rfl dX4_part_35 ?_
          refine z_get X zinX4 0 (by omega) gM_O (ci := 6) rfl 2 (by decide) (ref := "TowerFieldsModel") zw673 rfl rfl dX4_part_36 ?_
          refine z_goto X (tgt := 46) dX4_part_39 (by decide) ?_
          refine z_iload_n X 1 rfl rfl dX4_part_46 ?_
          refine z_callVv X zm_X4_load zw787 zp33 zw785 (zFit_of (by decide) (by decide)) [.ref (ad (5)), .ref (ad (1)), .int (iZ (n))] (q_load HU HA l O1 (x := 5) (r := 1) (by decide) (by omega) (by omega) (by omega) (a := (EL n).1) (by rw [zO_r1 O1]; exact x1a)) rfl rfl (Nat.le_of_ble_eq_true rfl) (by omega) gM_O (q := vwCl[6]) rfl rfl dX4_part_47 (fun S61 O61 => ?_)
          obtain ⟨F61, eF61⟩ : ∃ Fz, Fz = va_up F 5 ((EL n).1) := ⟨_, rfl⟩
          rw [← eF61] at O61
          have v61_5 : F61 5 = (EL n).1 := by rw [eF61, va_up_self]
          have v61_3 : F61 3 = F 3 := (congrFun eF61 3).trans ((va_up_ne _ _ (by omega)).trans v0_3)
          have v61_4 : F61 4 = F 4 := (congrFun eF61 4).trans ((va_up_ne _ _ (by omega)).trans v0_4)
          clear eF61
          refine z_iload_n X 2 rfl rfl dX4_part_50 ?_
          refine z_iconst X (n := 1) dX4_part_51 ?_
          refine z_icmp_le X (tgt := 59) (by omega) (by omega) dX4_part_52 (by decide) (fun hb52 => ?_) (fun hb52 => absurd hb52 (by omega))
          have hkd62 : S61.2.2.2.2.1 = kd := (zO_rk O61).trans G1.2.2.2.1
          refine z_aload_n X 0 rfl rfl dX4_part_59 ?_
          refine z_get X zinX4 0 (by omega) gM_O (ci := 6) rfl 4 (by decide) (ref := "TowerFieldsModel") zw675 rfl rfl dX4_part_60 ?_
          refine z_eqi (b := kd) hkd62 ?_
          refine z_iconst X (n := 2) dX4_part_63 ?_
          refine z_icmp_ne X (tgt := 76) (by omega) (by omega) dX4_part_64 (by decide) (fun hb64 => ?_) (fun hb64 => ?_)
          · refine z_iconst X (n := 0) dX4_part_76 ?_
            refine z_istore_n X [(3, .int (iZ (0))), (0, .ref (ad 0)), (1, .int (iZ (n))), (2, .int (iZ (kp)))] rfl rfl (by decide) dX4_part_77 ?_
            refine z_iconst X (n := 0) dX4_part_78 ?_
            refine z_istore X [(4, .int (iZ (0))), (3, .int (iZ (0))), (0, .ref (ad 0)), (1, .int (iZ (n))), (2, .int (iZ (kp)))] rfl (by decide) dX4_part_79 ?_
            refine z_iload X 0 rfl dX4_part_81 ?_
            refine z_bipush X (n := 40) (by decide) dX4_part_83 ?_
            refine z_icmp_ge X (tgt := 114) (by omega) (by omega) dX4_part_85 (by decide) (fun hb85 => absurd hb85 (by omega)) (fun hb85 => ?_)
            refine z_iload_n X 1 rfl rfl dX4_part_88 ?_
            refine z_if_eq X (tgt := 114) (by omega) dX4_part_89 (by decide) (fun hb89 => ?_) (fun hb89 => absurd hb89 (by omega))
            refine z_iload_n X 4 rfl rfl dX4_part_114 ?_
            refine z_iconst X (n := 3) dX4_part_115 ?_
            refine z_icmp_ne X (tgt := 172) (by omega) (by omega) dX4_part_116 (by decide) (fun hb116 => ?_) (fun hb116 => absurd hb116 (by omega))
            refine z_iload_n X 4 rfl rfl dX4_part_172 ?_
            refine z_iconst X (n := 4) dX4_part_173 ?_
            refine z_icmp_ne X (tgt := 204) (by omega) (by omega) dX4_part_174 (by decide) (fun hb174 => ?_) (fun hb174 => absurd hb174 (by omega))
            refine z_aload_n X 2 rfl rfl dX4_part_204 ?_
            refine z_get X zinX4 0 (by omega) gM_O (ci := 6) rfl 12 (by decide) (ref := "TowerFieldsModel") zw683 rfl rfl dX4_part_205 ?_
            refine z_aload_n X 2 rfl rfl dX4_part_208 ?_
            refine z_get X zinX4 0 (by omega) gM_O (ci := 6) rfl 7 (by decide) (ref := "TowerFieldsModel") zw678 rfl rfl dX4_part_209 ?_
            refine z_callSv X zm_X4_copy zw806 zw805 (zFit_of (by decide) (by decide)) [.ref (ad (10)), .ref (ad (5))] (q_copy HU HA l O61 (x := 10) (y := 5) (by decide) (by decide) (by omega)) rfl rfl (Nat.le_of_ble_eq_true rfl) dX4_part_212 (fun S63 O63 => ?_)
            obtain ⟨F63, eF63⟩ : ∃ Fz, Fz = va_up F61 10 (F61 5) := ⟨_, rfl⟩
            rw [← eF63] at O63
            have v63_10 : F63 10 = (EL n).1 := by rw [eF63, va_up_self, v61_5]
            have v63_3 : F63 3 = F 3 := (congrFun eF63 3).trans ((va_up_ne _ _ (by omega)).trans v61_3)
            have v63_4 : F63 4 = F 4 := (congrFun eF63 4).trans ((va_up_ne _ _ (by omega)).trans v61_4)
            have v63_5 : F63 5 = (EL n).1 := (congrFun eF63 5).trans ((va_up_ne _ _ (by omega)).trans v61_5)
            clear eF63
            refine z_aload_n X 2 rfl rfl dX4_part_215 ?_
            refine z_aload_n X 2 rfl rfl dX4_part_216 ?_
            refine z_get X zinX4 0 (by omega) gM_O (ci := 6) rfl 13 (by decide) (ref := "TowerFieldsModel") zw684 rfl rfl dX4_part_217 ?_
            refine z_callVv X zm_X4_one zw752 zp27 zw750 (zFit_of (by decide) (by decide)) [.ref (ad (11))] (q_one HU HA l O63 (x := 11) (by decide)) rfl rfl (Nat.le_of_ble_eq_true rfl) (by omega) gM_O (q := vwCl[6]) rfl rfl dX4_part_220 (fun S64 O64 => ?_)
            obtain ⟨F64, eF64⟩ : ∃ Fz, Fz = va_up F63 11 (1) := ⟨_, rfl⟩
            rw [← eF64] at O64
            have v64_11 : F64 11 = 1 := by rw [eF64, va_up_self]
            have v64_3 : F64 3 = F 3 := (congrFun eF64 3).trans ((va_up_ne _ _ (by omega)).trans v63_3)
            have v64_4 : F64 4 = F 4 := (congrFun eF64 4).trans ((va_up_ne _ _ (by omega)).trans v63_4)
            have v64_5 : F64 5 = (EL n).1 := (congrFun eF64 5).trans ((va_up_ne _ _ (by omega)).trans v63_5)
            have v64_10 : F64 10 = (EL n).1 := (congrFun eF64 10).trans ((va_up_ne _ _ (by omega)).trans v63_10)
            clear eF64
            refine z_aload_n X 2 rfl rfl dX4_part_223 ?_
            refine z_callVi X zm_X4_keep zw759 zp28 zw757 (zFit_of (by decide) (by decide)) [] (q_keep HU HA l O64 (mG_F G1 (F9 := F64) (v64_3.trans (rfl : F 3 = F 3).symm) (v64_4.trans (rfl : F 4 = F 4).symm)) hS hlt (p := (EL n).1) (q := 1) v64_10 v64_11 x1a.2 (zbox_1 HU HA)) rfl rfl (Nat.le_of_ble_eq_true rfl) (by omega) gM_O (q := vwCl[6]) rfl rfl dX4_part_224 (fun z65 S65 hz65 => ?_)
            exact E S65 (Or.inr (Or.inr (Or.inr ⟨hd1, hlt, by omega, hz65.1, (EL n).1, hz65.2, Or.inl ⟨by omega, rfl⟩⟩))) rfl dX4_part_227
          · refine z_iload_n X 2 rfl rfl dX4_part_67 ?_
            refine z_iconst X (n := 1) dX4_part_68 ?_
            refine z_icmp_le X (tgt := 76) (by omega) (by omega) dX4_part_69 (by decide) (fun hb69 => ?_) (fun hb69 => absurd hb69 (by omega))
            refine z_iconst X (n := 0) dX4_part_76 ?_
            refine z_istore_n X [(3, .int (iZ (0))), (0, .ref (ad 0)), (1, .int (iZ (n))), (2, .int (iZ (kp)))] rfl rfl (by decide) dX4_part_77 ?_
            refine z_iconst X (n := 0) dX4_part_78 ?_
            refine z_istore X [(4, .int (iZ (0))), (3, .int (iZ (0))), (0, .ref (ad 0)), (1, .int (iZ (n))), (2, .int (iZ (kp)))] rfl (by decide) dX4_part_79 ?_
            refine z_iload X 0 rfl dX4_part_81 ?_
            refine z_bipush X (n := 40) (by decide) dX4_part_83 ?_
            refine z_icmp_ge X (tgt := 114) (by omega) (by omega) dX4_part_85 (by decide) (fun hb85 => absurd hb85 (by omega)) (fun hb85 => ?_)
            refine z_iload_n X 1 rfl rfl dX4_part_88 ?_
            refine z_if_eq X (tgt := 114) (by omega) dX4_part_89 (by decide) (fun hb89 => ?_) (fun hb89 => absurd hb89 (by omega))
            refine z_iload_n X 4 rfl rfl dX4_part_114 ?_
            refine z_iconst X (n := 3) dX4_part_115 ?_
            refine z_icmp_ne X (tgt := 172) (by omega) (by omega) dX4_part_116 (by decide) (fun hb116 => ?_) (fun hb116 => absurd hb116 (by omega))
            refine z_iload_n X 4 rfl rfl dX4_part_172 ?_
            refine z_iconst X (n := 4) dX4_part_173 ?_
            refine z_icmp_ne X (tgt := 204) (by omega) (by omega) dX4_part_174 (by decide) (fun hb174 => ?_) (fun hb174 => absurd hb174 (by omega))
            refine z_aload_n X 2 rfl rfl dX4_part_204 ?_
            refine z_get X zinX4 0 (by omega) gM_O (ci := 6) rfl 12 (by decide) (ref := "TowerFieldsModel") zw683 rfl rfl dX4_part_205 ?_
            refine z_aload_n X 2 rfl rfl dX4_part_208 ?_
            refine z_get X zinX4 0 (by omega) gM_O (ci := 6) rfl 7 (by decide) (ref := "TowerFieldsModel") zw678 rfl rfl dX4_part_209 ?_
            refine z_callSv X zm_X4_copy zw806 zw805 (zFit_of (by decide) (by decide)) [.ref (ad (10)), .ref (ad (5))] (q_copy HU HA l O61 (x := 10) (y := 5) (by decide) (by decide) (by omega)) rfl rfl (Nat.le_of_ble_eq_true rfl) dX4_part_212 (fun S66 O66 => ?_)
            obtain ⟨F66, eF66⟩ : ∃ Fz, Fz = va_up F61 10 (F61 5) := ⟨_, rfl⟩
            rw [← eF66] at O66
            have v66_10 : F66 10 = (EL n).1 := by rw [eF66, va_up_self, v61_5]
            have v66_3 : F66 3 = F 3 := (congrFun eF66 3).trans ((va_up_ne _ _ (by omega)).trans v61_3)
            have v66_4 : F66 4 = F 4 := (congrFun eF66 4).trans ((va_up_ne _ _ (by omega)).trans v61_4)
            have v66_5 : F66 5 = (EL n).1 := (congrFun eF66 5).trans ((va_up_ne _ _ (by omega)).trans v61_5)
            clear eF66
            refine z_aload_n X 2 rfl rfl dX4_part_215 ?_
            refine z_aload_n X 2 rfl rfl dX4_part_216 ?_
            refine z_get X zinX4 0 (by omega) gM_O (ci := 6) rfl 13 (by decide) (ref := "TowerFieldsModel") zw684 rfl rfl dX4_part_217 ?_
            refine z_callVv X zm_X4_one zw752 zp27 zw750 (zFit_of (by decide) (by decide)) [.ref (ad (11))] (q_one HU HA l O66 (x := 11) (by decide)) rfl rfl (Nat.le_of_ble_eq_true rfl) (by omega) gM_O (q := vwCl[6]) rfl rfl dX4_part_220 (fun S67 O67 => ?_)
            obtain ⟨F67, eF67⟩ : ∃ Fz, Fz = va_up F66 11 (1) := ⟨_, rfl⟩
            rw [← eF67] at O67
            have v67_11 : F67 11 = 1 := by rw [eF67, va_up_self]
            have v67_3 : F67 3 = F 3 := (congrFun eF67 3).trans ((va_up_ne _ _ (by omega)).trans v66_3)
            have v67_4 : F67 4 = F 4 := (congrFun eF67 4).trans ((va_up_ne _ _ (by omega)).trans v66_4)
            have v67_5 : F67 5 = (EL n).1 := (congrFun eF67 5).trans ((va_up_ne _ _ (by omega)).trans v66_5)
            have v67_10 : F67 10 = (EL n).1 := (congrFun eF67 10).trans ((va_up_ne _ _ (by omega)).trans v66_10)
            clear eF67
            refine z_aload_n X 2 rfl rfl dX4_part_223 ?_
            refine z_callVi X zm_X4_keep zw759 zp28 zw757 (zFit_of (by decide) (by decide)) [] (q_keep HU HA l O67 (mG_F G1 (F9 := F67) (v67_3.trans (rfl : F 3 = F 3).symm) (v67_4.trans (rfl : F 4 = F 4).symm)) hS hlt (p := (EL n).1) (q := 1) v67_10 v67_11 x1a.2 (zbox_1 HU HA)) rfl rfl (Nat.le_of_ble_eq_true rfl) (by omega) gM_O (q := vwCl[6]) rfl rfl dX4_part_224 (fun z68 S68 hz68 => ?_)
            exact E S68 (Or.inr (Or.inr (Or.inr ⟨hd1, hlt, by omega, hz68.1, (EL n).1, hz68.2, Or.inl ⟨by omega, rfl⟩⟩))) rfl dX4_part_227
      · refine z_aload_n X 0 rfl rfl dX4_part_20 ?_
        refine z_iconst X (n := 3) dX4_part_21 ?_
        refine z_callVi X zm_X4_raise zw783 zp32 zw781 (zFit_of (by decide) (by decide)) [.int (iZ (3))] (c_X4_raise l S1 3) rfl rfl (Nat.le_of_ble_eq_true rfl) (by omega) gM_O (q := vwCl[6]) rfl rfl dX4_part_22 (fun zr Sr hzr => ?_)
        exact E Sr (Or.inr (Or.inr (Or.inl ⟨hd1, hlt, by omega, by rw [hzr.2]; exact zGm_code (cd := 0) ⟨⟨F, _, O1, G1⟩, hS⟩ 3⟩))) rfl dX4_part_25
  · refine z_iconst X (n := 0) dX4_part_9 ?_
    rcases hz1 with ⟨q1, q2, q3⟩ | ⟨q1, q2, q3, q4⟩ | ⟨q1, q2, q3, q4⟩
    · exact E S1 (Or.inl ⟨fun q => q1 ⟨q, q⟩, by rw [q3]; exact zGm_code hC0 1⟩) rfl dX4_part_10
    · exact E S1 (Or.inr (Or.inl ⟨q1.1, q2, by rw [q4]; exact zGm_code hC0 2⟩)) rfl dX4_part_10
    · exact absurd q3 (by omega)
