section
variable {U V : Type}
theorem mz_Dbox [Lean.Grind.CommRing U] [Lean.Grind.CommRing V] {cu : U → Nat → FP} {ca : V → Nat → U} (HU : mp_P cu) (HA : mp_P ca) {s x : Nat} {d a : V} (h : mp_D d a) (ha : a ≠ 0) (hb : zbb cu ca s x a) : zbb cu ca s x d := by
  have hU := mp_dom HU (mp_Fd_nz mp_FP)
  exact ⟨Nat.le_trans (mp_D_sz HA hU h ha) hb.1, Nat.le_trans (mp_D_sz (mp_sw_P HU HA) hU h ha) hb.2⟩
/-- the monic divisor that two share -/
def mGcd [Lean.Grind.CommRing U] [Lean.Grind.CommRing V] (cu : U → Nat → FP) (ca : V → Nat → U) (a b d : V) : Prop := (a = 0 ∧ b = 0 ∧ d = 0) ∨ (mp_lc cu (mp_lc ca d) = 1 ∧ ∃ x y, a = d * x ∧ b = d * y ∧ mp_Cp x y)
theorem mz_mon [Lean.Grind.CommRing U] [Lean.Grind.CommRing V] {cu : U → Nat → FP} {ca : V → Nat → U} (HU : mp_P cu) (HA : mp_P ca) {a : V} (h : a ≠ 0) : mp_lc cu (mp_lc ca (mp_C ca (mp_C cu (mf_inv (mp_lc cu (mp_lc ca a)))) * a)) = 1 := by
  have h1 := mp_lc_ne HU (mp_lc_ne HA h)
  rw [mz_lc HU HA (mf_inv_ne h1)]
  have := mf_mul_inv h1
  grind
theorem mz_mone [Lean.Grind.CommRing U] [Lean.Grind.CommRing V] {cu : U → Nat → FP} {ca : V → Nat → U} (HU : mp_P cu) (HA : mp_P ca) {a : V} (h : a ≠ 0) : mp_C ca (mp_C cu (mf_inv (mp_lc cu (mp_lc ca a)))) * mp_C ca (mp_C cu (mp_lc cu (mp_lc ca a))) = 1 := by
  have h1 := mf_mul_inv (mp_lc_ne HU (mp_lc_ne HA h))
  exact mz_CC1 HU HA (by grind)
theorem mGcd_0 [Lean.Grind.CommRing U] [Lean.Grind.CommRing V] {cu : U → Nat → FP} {ca : V → Nat → U} (HU : mp_P cu) (HA : mp_P ca) {a b : V} (ha : a = 0) : mGcd cu ca a b (mp_C ca (mp_C cu (mf_inv (mp_lc cu (mp_lc ca b)))) * b) := by
  by_cases hb : b = 0
  · exact Or.inl ⟨ha, hb, by rw [hb]; grind⟩
  · have e := mz_mone HU HA hb
    exact Or.inr ⟨mz_mon HU HA hb, 0, mp_C ca (mp_C cu (mp_lc cu (mp_lc ca b))), by rw [ha]; grind, by grind, fun d _ hd => mp_U_of_D hd ⟨mp_C ca (mp_C cu (mf_inv (mp_lc cu (mp_lc ca b)))), by rw [← e]; grind⟩⟩
theorem mGcd_sym [Lean.Grind.CommRing U] [Lean.Grind.CommRing V] {cu : U → Nat → FP} {ca : V → Nat → U} {a b d : V} (h : mGcd cu ca a b d) : mGcd cu ca b a d := by
  rcases h with ⟨h1, h2, h3⟩ | ⟨h1, x, y, h2, h3, h4⟩
  · exact Or.inl ⟨h2, h1, h3⟩
  · exact Or.inr ⟨h1, y, x, h3, h2, fun d q1 q2 => h4 d q2 q1⟩
theorem mGcd_n [Lean.Grind.CommRing U] [Lean.Grind.CommRing V] {cu : U → Nat → FP} {ca : V → Nat → U} (HU : mp_P cu) (HA : mp_P ca) {a b g p q : V} (hg : g ≠ 0) (h1 : a = g * p) (h2 : b = g * q) (hc : mp_Cp p q) : mGcd cu ca a b (mp_C ca (mp_C cu (mf_inv (mp_lc cu (mp_lc ca g)))) * g) := by
  have e := mz_mone HU HA hg
  have hx : ∀ x d : V, mp_D d (mp_C ca (mp_C cu (mp_lc cu (mp_lc ca g))) * x) → mp_D d x := fun x d hd => by
    obtain ⟨c, hc⟩ := hd
    exact ⟨c * mp_C ca (mp_C cu (mf_inv (mp_lc cu (mp_lc ca g)))), by grind⟩
  exact Or.inr ⟨mz_mon HU HA hg, mp_C ca (mp_C cu (mp_lc cu (mp_lc ca g))) * p, mp_C ca (mp_C cu (mp_lc cu (mp_lc ca g))) * q, by grind, by grind, fun d q1 q2 => hc d (hx p d q1) (hx q d q2)⟩
theorem mGcd_D [Lean.Grind.CommRing U] [Lean.Grind.CommRing V] {cu : U → Nat → FP} {ca : V → Nat → U} {a b d : V} (h : mGcd cu ca a b d) : mp_D d a ∧ mp_D d b := by
  rcases h with ⟨h1, h2, h3⟩ | ⟨h1, x, y, h2, h3, h4⟩
  · rw [h1, h2]; exact ⟨mp_D_0 d, mp_D_0 d⟩
  · exact ⟨⟨x, h2⟩, ⟨y, h3⟩⟩
theorem mGcd_b [Lean.Grind.CommRing U] [Lean.Grind.CommRing V] {cu : U → Nat → FP} {ca : V → Nat → U} (HU : mp_P cu) (HA : mp_P ca) {a b d : V} (h : mGcd cu ca a b d) {s x : Nat} (ha : zbb cu ca (s + 1) (x + 1) a) (hb : zbb cu ca (s + 1) (x + 1) b) : zbb cu ca (s + 1) (x + 1) d := by
  by_cases h1 : a = 0
  · by_cases h2 : b = 0
    · rcases h with h | ⟨h3, x, y, h4, h5, h6⟩
      · rw [h.2.2]; exact zbb_le (zbb_0 HU HA) (by omega) (by omega)
      · have hd : d ≠ 0 := fun q => mp_FP.2 (by rw [← h3, q, mp_lc, mp_lc, mp_zero HA, mp_zero HU])
        have hAd := mp_dom HA (mp_dom HU (mp_Fd_nz mp_FP))
        have hx : x = 0 := (hAd.1 d x (by rw [← h4, h1])).resolve_left hd
        have hy : y = 0 := (hAd.1 d y (by rw [← h5, h2])).resolve_left hd
        rw [hx, hy] at h6
        obtain ⟨c, hc⟩ := h6 0 (mp_D_0 _) (mp_D_0 _)
        exact absurd (by rw [← hc]; grind : (1 : V) = 0) hAd.2
    · exact mz_Dbox HU HA (mGcd_D h).2 h2 hb
  · exact mz_Dbox HU HA (mGcd_D h).1 h1 ha
end
set_option maxHeartbeats 8000000 in
set_option maxRecDepth 100000 in
theorem q_shared {U V : Type} [Lean.Grind.CommRing U] [Lean.Grind.CommRing V] {cu : U → Nat → FP} {ca : V → Nat → U} (HU : mp_P cu) (HA : mp_P ca) (l : Launch) {D : va_G} {ad : Nat → Nat} {cI : ClassId} {F : Nat → V} {T : zTM} {M : zM} (hO : zO cu ca F T M) (b5 : zbb cu ca 7 7 (F 5)) (b6 : zbb cu ca 7 7 (F 6)) : zMv l yX4_shared cX4_shared 1 3 D (zTyM cI) 18 ad [.ref (ad 0)] (gM ad cI M) (gM ad cI) (fun u => ∃ F9, zO cu ca F9 T u ∧ mGcd cu ca (F 5) (F 6) (F9 8) ∧ F9 5 = F 5 ∧ F9 6 = F 6 ∧ F9 17 = F 17 ∧ F9 3 = F 3 ∧ F9 4 = F 4) := by
  have hAd := mp_dom HA (mp_dom HU (mp_Fd_nz mp_FP))
  have v0_3 : F 3 = F 3 := rfl
  have v0_4 : F 4 = F 4 := rfl
  have v0_5 : F 5 = F 5 := rfl
  have v0_6 : F 6 = F 6 := rfl
  have v0_17 : F 17 = F 17 := rfl
  refine z_gov zm_X4_shared (Nat.le_of_ble_eq_true rfl) [(0, .ref (ad 0))] rfl (fun p e s m args below meth c A Q X E => ?_)
  refine z_aload_n X 0 rfl rfl dX4_shared_0 ?_
  refine z_get X zinX4 0 (by omega) gM_O (ci := 6) rfl 7 (by decide) (ref := "TowerFieldsModel") zw678 rfl rfl dX4_shared_1 ?_
  refine z_callSi X zm_X4_isNone zw803 zw802 (zFit_of (by decide) (by decide)) [.ref (ad (5))] (q_isNone HU HA l hO (x := 5) (by decide)) rfl rfl (Nat.le_of_ble_eq_true rfl) dX4_shared_4 (fun z4 _ hz4 => ?_)
  rw [v0_5] at hz4
  have hy4 : z4 = 0 ∨ z4 = 1 := hz4.elim (fun q => Or.inr q.1) (fun q => Or.inl q.1)
  refine z_if_ne X (tgt := 20) (by omega) dX4_shared_7 (by decide) (fun hb7 => ?_) (fun hb7 => ?_)
  · refine z_aload_n X 0 rfl rfl dX4_shared_20 ?_
    refine z_get X zinX4 0 (by omega) gM_O (ci := 6) rfl 10 (by decide) (ref := "TowerFieldsModel") zw681 rfl rfl dX4_shared_21 ?_
    refine z_aload_n X 0 rfl rfl dX4_shared_24 ?_
    refine z_get X zinX4 0 (by omega) gM_O (ci := 6) rfl 7 (by decide) (ref := "TowerFieldsModel") zw678 rfl rfl dX4_shared_25 ?_
    refine z_callSi X zm_X4_isNone zw803 zw802 (zFit_of (by decide) (by decide)) [.ref (ad (5))] (q_isNone HU HA l hO (x := 5) (by decide)) rfl rfl (Nat.le_of_ble_eq_true rfl) dX4_shared_28 (fun z28 _ hz28 => ?_)
    rw [v0_5] at hz28
    have hy28 : z28 = 0 ∨ z28 = 1 := hz28.elim (fun q => Or.inr q.1) (fun q => Or.inl q.1)
    refine z_if_eq X (tgt := 41) (by omega) dX4_shared_31 (by decide) (fun hb31 => ?_) (fun hb31 => ?_)
    · refine z_aload_n X 0 rfl rfl dX4_shared_41 ?_
      refine z_get X zinX4 0 (by omega) gM_O (ci := 6) rfl 7 (by decide) (ref := "TowerFieldsModel") zw678 rfl rfl dX4_shared_42 ?_
      refine z_callSv X zm_X4_copy zw806 zw805 (zFit_of (by decide) (by decide)) [.ref (ad (8)), .ref (ad (5))] (q_copy HU HA l hO (x := 8) (y := 5) (by decide) (by decide) (by omega)) rfl rfl (Nat.le_of_ble_eq_true rfl) dX4_shared_45 (fun S3 O3 => ?_)
      obtain ⟨F3, eF3⟩ : ∃ Fz, Fz = va_up F 8 (F 5) := ⟨_, rfl⟩
      rw [← eF3] at O3
      have v3_8 : F3 8 = F 5 := by rw [eF3, va_up_self, v0_5]
      have v3_3 : F3 3 = F 3 := (congrFun eF3 3).trans ((va_up_ne _ _ (by omega)).trans v0_3)
      have v3_4 : F3 4 = F 4 := (congrFun eF3 4).trans ((va_up_ne _ _ (by omega)).trans v0_4)
      have v3_5 : F3 5 = F 5 := (congrFun eF3 5).trans ((va_up_ne _ _ (by omega)).trans v0_5)
      have v3_6 : F3 6 = F 6 := (congrFun eF3 6).trans ((va_up_ne _ _ (by omega)).trans v0_6)
      have v3_17 : F3 17 = F 17 := (congrFun eF3 17).trans ((va_up_ne _ _ (by omega)).trans v0_17)
      clear eF3
      refine z_aload_n X 0 rfl rfl dX4_shared_48 ?_
      refine z_aload_n X 0 rfl rfl dX4_shared_49 ?_
      refine z_get X zinX4 0 (by omega) gM_O (ci := 6) rfl 10 (by decide) (ref := "TowerFieldsModel") zw681 rfl rfl dX4_shared_50 ?_
      refine z_callVv X zm_X4_makeMonic zw882 zp45 zw880 (zFit_of (by decide) (by decide)) [.ref (ad (8))] (q_makeMonic HU HA l O3 (x := 8) (by decide)) rfl rfl (Nat.le_of_ble_eq_true rfl) (by omega) gM_O (q := vwCl[6]) rfl rfl dX4_shared_53 (fun S4 O4 => ?_)
      obtain ⟨F4, eF4⟩ : ∃ Fz, Fz = va_up F3 8 (mp_C ca (mp_C cu (mf_inv (mp_lc cu (mp_lc ca (F3 8))))) * (F3 8)) := ⟨_, rfl⟩
      rw [← eF4] at O4
      have v4_8 : F4 8 = mp_C ca (mp_C cu (mf_inv (mp_lc cu (mp_lc ca (F 5))))) * (F 5) := by rw [eF4, va_up_self, v3_8]
      have v4_3 : F4 3 = F 3 := (congrFun eF4 3).trans ((va_up_ne _ _ (by omega)).trans v3_3)
      have v4_4 : F4 4 = F 4 := (congrFun eF4 4).trans ((va_up_ne _ _ (by omega)).trans v3_4)
      have v4_5 : F4 5 = F 5 := (congrFun eF4 5).trans ((va_up_ne _ _ (by omega)).trans v3_5)
      have v4_6 : F4 6 = F 6 := (congrFun eF4 6).trans ((va_up_ne _ _ (by omega)).trans v3_6)
      have v4_17 : F4 17 = F 17 := (congrFun eF4 17).trans ((va_up_ne _ _ (by omega)).trans v3_17)
      clear eF4
      have hB0 : F 6 = 0 := by
        rcases hz28 with r | r
        · omega
        · rcases hz4 with r4 | r4
          · exact absurd r4.2 r.2
          · omega
      exact E S4 ⟨F4, O4, by rw [v4_8]; exact mGcd_sym (mGcd_0 HU HA hB0), v4_5, v4_6, v4_17, v4_3, v4_4⟩ rfl dX4_shared_56
    · refine z_aload_n X 0 rfl rfl dX4_shared_34 ?_
      refine z_get X zinX4 0 (by omega) gM_O (ci := 6) rfl 8 (by decide) (ref := "TowerFieldsModel") zw679 rfl rfl dX4_shared_35 ?_
      refine z_goto X (tgt := 45) dX4_shared_38 (by decide) ?_
      refine z_callSv X zm_X4_copy zw806 zw805 (zFit_of (by decide) (by decide)) [.ref (ad (8)), .ref (ad (6))] (q_copy HU HA l hO (x := 8) (y := 6) (by decide) (by decide) (by omega)) rfl rfl (Nat.le_of_ble_eq_true rfl) dX4_shared_45 (fun S5 O5 => ?_)
      obtain ⟨F5, eF5⟩ : ∃ Fz, Fz = va_up F 8 (F 6) := ⟨_, rfl⟩
      rw [← eF5] at O5
      have v5_8 : F5 8 = F 6 := by rw [eF5, va_up_self, v0_6]
      have v5_3 : F5 3 = F 3 := (congrFun eF5 3).trans ((va_up_ne _ _ (by omega)).trans v0_3)
      have v5_4 : F5 4 = F 4 := (congrFun eF5 4).trans ((va_up_ne _ _ (by omega)).trans v0_4)
      have v5_5 : F5 5 = F 5 := (congrFun eF5 5).trans ((va_up_ne _ _ (by omega)).trans v0_5)
      have v5_6 : F5 6 = F 6 := (congrFun eF5 6).trans ((va_up_ne _ _ (by omega)).trans v0_6)
      have v5_17 : F5 17 = F 17 := (congrFun eF5 17).trans ((va_up_ne _ _ (by omega)).trans v0_17)
      clear eF5
      refine z_aload_n X 0 rfl rfl dX4_shared_48 ?_
      refine z_aload_n X 0 rfl rfl dX4_shared_49 ?_
      refine z_get X zinX4 0 (by omega) gM_O (ci := 6) rfl 10 (by decide) (ref := "TowerFieldsModel") zw681 rfl rfl dX4_shared_50 ?_
      refine z_callVv X zm_X4_makeMonic zw882 zp45 zw880 (zFit_of (by decide) (by decide)) [.ref (ad (8))] (q_makeMonic HU HA l O5 (x := 8) (by decide)) rfl rfl (Nat.le_of_ble_eq_true rfl) (by omega) gM_O (q := vwCl[6]) rfl rfl dX4_shared_53 (fun S6 O6 => ?_)
      obtain ⟨F6, eF6⟩ : ∃ Fz, Fz = va_up F5 8 (mp_C ca (mp_C cu (mf_inv (mp_lc cu (mp_lc ca (F5 8))))) * (F5 8)) := ⟨_, rfl⟩
      rw [← eF6] at O6
      have v6_8 : F6 8 = mp_C ca (mp_C cu (mf_inv (mp_lc cu (mp_lc ca (F 6))))) * (F 6) := by rw [eF6, va_up_self, v5_8]
      have v6_3 : F6 3 = F 3 := (congrFun eF6 3).trans ((va_up_ne _ _ (by omega)).trans v5_3)
      have v6_4 : F6 4 = F 4 := (congrFun eF6 4).trans ((va_up_ne _ _ (by omega)).trans v5_4)
      have v6_5 : F6 5 = F 5 := (congrFun eF6 5).trans ((va_up_ne _ _ (by omega)).trans v5_5)
      have v6_6 : F6 6 = F 6 := (congrFun eF6 6).trans ((va_up_ne _ _ (by omega)).trans v5_6)
      have v6_17 : F6 17 = F 17 := (congrFun eF6 17).trans ((va_up_ne _ _ (by omega)).trans v5_17)
      clear eF6
      have hA0 : F 5 = 0 := by
        rcases hz28 with r | r
        · exact r.2
        · omega
      exact E S6 ⟨F6, O6, by rw [v6_8]; exact mGcd_0 HU HA hA0, v6_5, v6_6, v6_17, v6_3, v6_4⟩ rfl dX4_shared_56
  · refine z_aload_n X 0 rfl rfl dX4_shared_10 ?_
    refine z_get X zinX4 0 (by omega) gM_O (ci := 6) rfl 8 (by decide) (ref := "TowerFieldsModel") zw679 rfl rfl dX4_shared_11 ?_
    refine z_callSi X zm_X4_isNone zw803 zw802 (zFit_of (by decide) (by decide)) [.ref (ad (6))] (q_isNone HU HA l hO (x := 6) (by decide)) rfl rfl (Nat.le_of_ble_eq_true rfl) dX4_shared_14 (fun z14 _ hz14 => ?_)
    rw [v0_6] at hz14
    have hy14 : z14 = 0 ∨ z14 = 1 := hz14.elim (fun q => Or.inr q.1) (fun q => Or.inl q.1)
    refine z_if_eq X (tgt := 57) (by omega) dX4_shared_17 (by decide) (fun hb17 => ?_) (fun hb17 => ?_)
    · have ha0 : F 5 ≠ 0 := by
        rcases hz4 with r | r
        · omega
        · exact r.2
      have hb0 : F 6 ≠ 0 := by
        rcases hz14 with r | r
        · omega
        · exact r.2
      refine z_aload_n X 0 rfl rfl dX4_shared_57 ?_
      refine z_get X zinX4 0 (by omega) gM_O (ci := 6) rfl 12 (by decide) (ref := "TowerFieldsModel") zw683 rfl rfl dX4_shared_58 ?_
      refine z_aload_n X 0 rfl rfl dX4_shared_61 ?_
      refine z_get X zinX4 0 (by omega) gM_O (ci := 6) rfl 7 (by decide) (ref := "TowerFieldsModel") zw678 rfl rfl dX4_shared_62 ?_
      refine z_callSv X zm_X4_copy zw806 zw805 (zFit_of (by decide) (by decide)) [.ref (ad (10)), .ref (ad (5))] (q_copy HU HA l hO (x := 10) (y := 5) (by decide) (by decide) (by omega)) rfl rfl (Nat.le_of_ble_eq_true rfl) dX4_shared_65 (fun S8 O8 => ?_)
      obtain ⟨F8, eF8⟩ : ∃ Fz, Fz = va_up F 10 (F 5) := ⟨_, rfl⟩
      rw [← eF8] at O8
      have v8_10 : F8 10 = F 5 := by rw [eF8, va_up_self, v0_5]
      have v8_3 : F8 3 = F 3 := (congrFun eF8 3).trans ((va_up_ne _ _ (by omega)).trans v0_3)
      have v8_4 : F8 4 = F 4 := (congrFun eF8 4).trans ((va_up_ne _ _ (by omega)).trans v0_4)
      have v8_5 : F8 5 = F 5 := (congrFun eF8 5).trans ((va_up_ne _ _ (by omega)).trans v0_5)
      have v8_6 : F8 6 = F 6 := (congrFun eF8 6).trans ((va_up_ne _ _ (by omega)).trans v0_6)
      have v8_17 : F8 17 = F 17 := (congrFun eF8 17).trans ((va_up_ne _ _ (by omega)).trans v0_17)
      clear eF8
      refine z_aload_n X 0 rfl rfl dX4_shared_68 ?_
      refine z_get X zinX4 0 (by omega) gM_O (ci := 6) rfl 13 (by decide) (ref := "TowerFieldsModel") zw684 rfl rfl dX4_shared_69 ?_
      refine z_aload_n X 0 rfl rfl dX4_shared_72 ?_
      refine z_get X zinX4 0 (by omega) gM_O (ci := 6) rfl 8 (by decide) (ref := "TowerFieldsModel") zw679 rfl rfl dX4_shared_73 ?_
      refine z_callSv X zm_X4_copy zw806 zw805 (zFit_of (by decide) (by decide)) [.ref (ad (11)), .ref (ad (6))] (q_copy HU HA l O8 (x := 11) (y := 6) (by decide) (by decide) (by omega)) rfl rfl (Nat.le_of_ble_eq_true rfl) dX4_shared_76 (fun S9 O9 => ?_)
      obtain ⟨F9, eF9⟩ : ∃ Fz, Fz = va_up F8 11 (F8 6) := ⟨_, rfl⟩
      rw [← eF9] at O9
      have v9_11 : F9 11 = F 6 := by rw [eF9, va_up_self, v8_6]
      have v9_3 : F9 3 = F 3 := (congrFun eF9 3).trans ((va_up_ne _ _ (by omega)).trans v8_3)
      have v9_4 : F9 4 = F 4 := (congrFun eF9 4).trans ((va_up_ne _ _ (by omega)).trans v8_4)
      have v9_5 : F9 5 = F 5 := (congrFun eF9 5).trans ((va_up_ne _ _ (by omega)).trans v8_5)
      have v9_6 : F9 6 = F 6 := (congrFun eF9 6).trans ((va_up_ne _ _ (by omega)).trans v8_6)
      have v9_17 : F9 17 = F 17 := (congrFun eF9 17).trans ((va_up_ne _ _ (by omega)).trans v8_17)
      have v9_10 : F9 10 = F 5 := (congrFun eF9 10).trans ((va_up_ne _ _ (by omega)).trans v8_10)
      clear eF9
      refine z_aload_n X 0 rfl rfl dX4_shared_79 ?_
      refine z_callVi X zm_X4_reduce zw810 zp35 zw808 (zFit_of (by decide) (by decide)) [] (q_reduce HU HA l O9 (by rw [v9_11]; exact hb0) (by rw [v9_10]; exact zbb_le b5 (by omega) (by omega)) (by rw [v9_11]; exact zbb_le b6 (by omega) (by omega))) rfl rfl (Nat.le_of_ble_eq_true rfl) (by omega) gM_O (q := vwCl[6]) rfl rfl dX4_shared_80 (fun z10 S10 hz10 => ?_)
      rw [v9_10, v9_11] at hz10
      obtain ⟨pp, qq, ⟨gg, g1, g2, g3, g4⟩, hbp, hbq, O10⟩ : ∃ p q, zLow cu ca (F 5) (F 6) p q ∧ mk_box cu ca p ∧ mk_box cu ca q ∧ zO cu ca (va_up (va_up F9 10 p) 11 q) T S10 := by
        rcases hz10 with q | ⟨_, ⟨p, q, q1, q2⟩, _⟩
        · exact q.2
        · obtain ⟨g, r1, r2, -, -⟩ := q1
          exact absurd ⟨mz_Dbox HU HA ⟨g, by rw [r1]; grind⟩ ha0 b5, mz_Dbox HU HA ⟨g, by rw [r2]; grind⟩ hb0 b6⟩ q2
      have hp0 : pp ≠ 0 := fun q => ha0 (by rw [g1, q]; grind)
      have hg0 : gg ≠ 0 := fun q => ha0 (by rw [g1, q]; grind)
      have bg : zbb cu ca 7 7 gg := mz_Dbox HU HA ⟨pp, g1⟩ ha0 b5
      obtain ⟨F10, eF10⟩ : ∃ Fz, Fz = va_up (va_up F9 10 pp) 11 qq := ⟨_, rfl⟩
      rw [← eF10] at O10
      have v10_10 : F10 10 = pp := by rw [eF10, va_up_ne _ _ (by omega), va_up_self]
      have v10_3 : F10 3 = F 3 := (congrFun eF10 3).trans ((va_up_ne _ _ (by omega)).trans ((va_up_ne _ _ (by omega)).trans v9_3))
      have v10_4 : F10 4 = F 4 := (congrFun eF10 4).trans ((va_up_ne _ _ (by omega)).trans ((va_up_ne _ _ (by omega)).trans v9_4))
      have v10_5 : F10 5 = F 5 := (congrFun eF10 5).trans ((va_up_ne _ _ (by omega)).trans ((va_up_ne _ _ (by omega)).trans v9_5))
      have v10_6 : F10 6 = F 6 := (congrFun eF10 6).trans ((va_up_ne _ _ (by omega)).trans ((va_up_ne _ _ (by omega)).trans v9_6))
      have v10_17 : F10 17 = F 17 := (congrFun eF10 17).trans ((va_up_ne _ _ (by omega)).trans ((va_up_ne _ _ (by omega)).trans v9_17))
      clear eF10
      refine z_pop X rfl dX4_shared_83 ?_
      refine z_aload_n X 0 rfl rfl dX4_shared_84 ?_
      refine z_get X zinX4 0 (by omega) gM_O (ci := 6) rfl 11 (by decide) (ref := "TowerFieldsModel") zw682 rfl rfl dX4_shared_85 ?_
      refine z_aload_n X 0 rfl rfl dX4_shared_88 ?_
      refine z_get X zinX4 0 (by omega) gM_O (ci := 6) rfl 12 (by decide) (ref := "TowerFieldsModel") zw683 rfl rfl dX4_shared_89 ?_
      refine z_callSv X zm_X4_copy zw806 zw805 (zFit_of (by decide) (by decide)) [.ref (ad (9)), .ref (ad (10))] (q_copy HU HA l O10 (x := 9) (y := 10) (by decide) (by decide) (by omega)) rfl rfl (Nat.le_of_ble_eq_true rfl) dX4_shared_92 (fun S11 O11 => ?_)
      obtain ⟨F11, eF11⟩ : ∃ Fz, Fz = va_up F10 9 (F10 10) := ⟨_, rfl⟩
      rw [← eF11] at O11
      have v11_9 : F11 9 = pp := by rw [eF11, va_up_self, v10_10]
      have v11_3 : F11 3 = F 3 := (congrFun eF11 3).trans ((va_up_ne _ _ (by omega)).trans v10_3)
      have v11_4 : F11 4 = F 4 := (congrFun eF11 4).trans ((va_up_ne _ _ (by omega)).trans v10_4)
      have v11_5 : F11 5 = F 5 := (congrFun eF11 5).trans ((va_up_ne _ _ (by omega)).trans v10_5)
      have v11_6 : F11 6 = F 6 := (congrFun eF11 6).trans ((va_up_ne _ _ (by omega)).trans v10_6)
      have v11_17 : F11 17 = F 17 := (congrFun eF11 17).trans ((va_up_ne _ _ (by omega)).trans v10_17)
      have v11_10 : F11 10 = pp := (congrFun eF11 10).trans ((va_up_ne _ _ (by omega)).trans v10_10)
      clear eF11
      refine z_aload_n X 0 rfl rfl dX4_shared_95 ?_
      refine z_get X zinX4 0 (by omega) gM_O (ci := 6) rfl 12 (by decide) (ref := "TowerFieldsModel") zw683 rfl rfl dX4_shared_96 ?_
      refine z_aload_n X 0 rfl rfl dX4_shared_99 ?_
      refine z_get X zinX4 0 (by omega) gM_O (ci := 6) rfl 7 (by decide) (ref := "TowerFieldsModel") zw678 rfl rfl dX4_shared_100 ?_
      refine z_callSv X zm_X4_copy zw806 zw805 (zFit_of (by decide) (by decide)) [.ref (ad (10)), .ref (ad (5))] (q_copy HU HA l O11 (x := 10) (y := 5) (by decide) (by decide) (by omega)) rfl rfl (Nat.le_of_ble_eq_true rfl) dX4_shared_103 (fun S12 O12 => ?_)
      obtain ⟨F12, eF12⟩ : ∃ Fz, Fz = va_up F11 10 (F11 5) := ⟨_, rfl⟩
      rw [← eF12] at O12
      have v12_10 : F12 10 = F 5 := by rw [eF12, va_up_self, v11_5]
      have v12_3 : F12 3 = F 3 := (congrFun eF12 3).trans ((va_up_ne _ _ (by omega)).trans v11_3)
      have v12_4 : F12 4 = F 4 := (congrFun eF12 4).trans ((va_up_ne _ _ (by omega)).trans v11_4)
      have v12_5 : F12 5 = F 5 := (congrFun eF12 5).trans ((va_up_ne _ _ (by omega)).trans v11_5)
      have v12_6 : F12 6 = F 6 := (congrFun eF12 6).trans ((va_up_ne _ _ (by omega)).trans v11_6)
      have v12_17 : F12 17 = F 17 := (congrFun eF12 17).trans ((va_up_ne _ _ (by omega)).trans v11_17)
      have v12_9 : F12 9 = pp := (congrFun eF12 9).trans ((va_up_ne _ _ (by omega)).trans v11_9)
      clear eF12
      refine z_aload_n X 0 rfl rfl dX4_shared_106 ?_
      refine z_aload_n X 0 rfl rfl dX4_shared_107 ?_
      refine z_get X zinX4 0 (by omega) gM_O (ci := 6) rfl 11 (by decide) (ref := "TowerFieldsModel") zw682 rfl rfl dX4_shared_108 ?_
      refine z_callVv X zm_X4_divide zw886 zp46 zw884 (zFit_of (by decide) (by decide)) [.ref (ad (9))] (q_divide HU HA l O12 (y := 9) (by decide) (by omega) (by omega) (wq := gg) (by rw [v12_9]; exact hp0) (by rw [v12_10, v12_9]; exact (g1.trans (by grind))) (zbb_le bg (by omega) (by omega))) rfl rfl (Nat.le_of_ble_eq_true rfl) (by omega) gM_O (q := vwCl[6]) rfl rfl dX4_shared_111 (fun S13 O13 => ?_)
      obtain ⟨F13, eF13⟩ : ∃ Fz, Fz = va_up (va_up F12 7 (gg)) 10 (gg) := ⟨_, rfl⟩
      rw [← eF13] at O13
      have v13_10 : F13 10 = gg := by rw [eF13, va_up_self]
      have v13_3 : F13 3 = F 3 := (congrFun eF13 3).trans ((va_up_ne _ _ (by omega)).trans ((va_up_ne _ _ (by omega)).trans v12_3))
      have v13_4 : F13 4 = F 4 := (congrFun eF13 4).trans ((va_up_ne _ _ (by omega)).trans ((va_up_ne _ _ (by omega)).trans v12_4))
      have v13_5 : F13 5 = F 5 := (congrFun eF13 5).trans ((va_up_ne _ _ (by omega)).trans ((va_up_ne _ _ (by omega)).trans v12_5))
      have v13_6 : F13 6 = F 6 := (congrFun eF13 6).trans ((va_up_ne _ _ (by omega)).trans ((va_up_ne _ _ (by omega)).trans v12_6))
      have v13_17 : F13 17 = F 17 := (congrFun eF13 17).trans ((va_up_ne _ _ (by omega)).trans ((va_up_ne _ _ (by omega)).trans v12_17))
      have v13_9 : F13 9 = pp := (congrFun eF13 9).trans ((va_up_ne _ _ (by omega)).trans ((va_up_ne _ _ (by omega)).trans v12_9))
      clear eF13
      refine z_aload_n X 0 rfl rfl dX4_shared_114 ?_
      refine z_get X zinX4 0 (by omega) gM_O (ci := 6) rfl 10 (by decide) (ref := "TowerFieldsModel") zw681 rfl rfl dX4_shared_115 ?_
      refine z_aload_n X 0 rfl rfl dX4_shared_118 ?_
      refine z_get X zinX4 0 (by omega) gM_O (ci := 6) rfl 12 (by decide) (ref := "TowerFieldsModel") zw683 rfl rfl dX4_shared_119 ?_
      refine z_callSv X zm_X4_copy zw806 zw805 (zFit_of (by decide) (by decide)) [.ref (ad (8)), .ref (ad (10))] (q_copy HU HA l O13 (x := 8) (y := 10) (by decide) (by decide) (by omega)) rfl rfl (Nat.le_of_ble_eq_true rfl) dX4_shared_122 (fun S14 O14 => ?_)
      obtain ⟨F14, eF14⟩ : ∃ Fz, Fz = va_up F13 8 (F13 10) := ⟨_, rfl⟩
      rw [← eF14] at O14
      have v14_8 : F14 8 = gg := by rw [eF14, va_up_self, v13_10]
      have v14_3 : F14 3 = F 3 := (congrFun eF14 3).trans ((va_up_ne _ _ (by omega)).trans v13_3)
      have v14_4 : F14 4 = F 4 := (congrFun eF14 4).trans ((va_up_ne _ _ (by omega)).trans v13_4)
      have v14_5 : F14 5 = F 5 := (congrFun eF14 5).trans ((va_up_ne _ _ (by omega)).trans v13_5)
      have v14_6 : F14 6 = F 6 := (congrFun eF14 6).trans ((va_up_ne _ _ (by omega)).trans v13_6)
      have v14_17 : F14 17 = F 17 := (congrFun eF14 17).trans ((va_up_ne _ _ (by omega)).trans v13_17)
      have v14_10 : F14 10 = gg := (congrFun eF14 10).trans ((va_up_ne _ _ (by omega)).trans v13_10)
      have v14_9 : F14 9 = pp := (congrFun eF14 9).trans ((va_up_ne _ _ (by omega)).trans v13_9)
      clear eF14
      refine z_aload_n X 0 rfl rfl dX4_shared_125 ?_
      refine z_aload_n X 0 rfl rfl dX4_shared_126 ?_
      refine z_get X zinX4 0 (by omega) gM_O (ci := 6) rfl 10 (by decide) (ref := "TowerFieldsModel") zw681 rfl rfl dX4_shared_127 ?_
      refine z_callVv X zm_X4_makeMonic zw882 zp45 zw880 (zFit_of (by decide) (by decide)) [.ref (ad (8))] (q_makeMonic HU HA l O14 (x := 8) (by decide)) rfl rfl (Nat.le_of_ble_eq_true rfl) (by omega) gM_O (q := vwCl[6]) rfl rfl dX4_shared_130 (fun S15 O15 => ?_)
      obtain ⟨F15, eF15⟩ : ∃ Fz, Fz = va_up F14 8 (mp_C ca (mp_C cu (mf_inv (mp_lc cu (mp_lc ca (F14 8))))) * (F14 8)) := ⟨_, rfl⟩
      rw [← eF15] at O15
      have v15_8 : F15 8 = mp_C ca (mp_C cu (mf_inv (mp_lc cu (mp_lc ca (gg))))) * gg := by rw [eF15, va_up_self, v14_8]
      have v15_3 : F15 3 = F 3 := (congrFun eF15 3).trans ((va_up_ne _ _ (by omega)).trans v14_3)
      have v15_4 : F15 4 = F 4 := (congrFun eF15 4).trans ((va_up_ne _ _ (by omega)).trans v14_4)
      have v15_5 : F15 5 = F 5 := (congrFun eF15 5).trans ((va_up_ne _ _ (by omega)).trans v14_5)
      have v15_6 : F15 6 = F 6 := (congrFun eF15 6).trans ((va_up_ne _ _ (by omega)).trans v14_6)
      have v15_17 : F15 17 = F 17 := (congrFun eF15 17).trans ((va_up_ne _ _ (by omega)).trans v14_17)
      have v15_10 : F15 10 = gg := (congrFun eF15 10).trans ((va_up_ne _ _ (by omega)).trans v14_10)
      have v15_9 : F15 9 = pp := (congrFun eF15 9).trans ((va_up_ne _ _ (by omega)).trans v14_9)
      clear eF15
      exact E S15 ⟨F15, O15, by rw [v15_8]; exact mGcd_n HU HA hg0 g1 g2 g3, v15_5, v15_6, v15_17, v15_3, v15_4⟩ rfl dX4_shared_133
    · refine z_aload_n X 0 rfl rfl dX4_shared_20 ?_
      refine z_get X zinX4 0 (by omega) gM_O (ci := 6) rfl 10 (by decide) (ref := "TowerFieldsModel") zw681 rfl rfl dX4_shared_21 ?_
      refine z_aload_n X 0 rfl rfl dX4_shared_24 ?_
      refine z_get X zinX4 0 (by omega) gM_O (ci := 6) rfl 7 (by decide) (ref := "TowerFieldsModel") zw678 rfl rfl dX4_shared_25 ?_
      refine z_callSi X zm_X4_isNone zw803 zw802 (zFit_of (by decide) (by decide)) [.ref (ad (5))] (q_isNone HU HA l hO (x := 5) (by decide)) rfl rfl (Nat.le_of_ble_eq_true rfl) dX4_shared_28 (fun z28 _ hz28 => ?_)
      rw [v0_5] at hz28
      have hy28 : z28 = 0 ∨ z28 = 1 := hz28.elim (fun q => Or.inr q.1) (fun q => Or.inl q.1)
      refine z_if_eq X (tgt := 41) (by omega) dX4_shared_31 (by decide) (fun hb31 => ?_) (fun hb31 => ?_)
      · refine z_aload_n X 0 rfl rfl dX4_shared_41 ?_
        refine z_get X zinX4 0 (by omega) gM_O (ci := 6) rfl 7 (by decide) (ref := "TowerFieldsModel") zw678 rfl rfl dX4_shared_42 ?_
        refine z_callSv X zm_X4_copy zw806 zw805 (zFit_of (by decide) (by decide)) [.ref (ad (8)), .ref (ad (5))] (q_copy HU HA l hO (x := 8) (y := 5) (by decide) (by decide) (by omega)) rfl rfl (Nat.le_of_ble_eq_true rfl) dX4_shared_45 (fun S17 O17 => ?_)
        obtain ⟨F17, eF17⟩ : ∃ Fz, Fz = va_up F 8 (F 5) := ⟨_, rfl⟩
        rw [← eF17] at O17
        have v17_8 : F17 8 = F 5 := by rw [eF17, va_up_self, v0_5]
        have v17_3 : F17 3 = F 3 := (congrFun eF17 3).trans ((va_up_ne _ _ (by omega)).trans v0_3)
        have v17_4 : F17 4 = F 4 := (congrFun eF17 4).trans ((va_up_ne _ _ (by omega)).trans v0_4)
        have v17_5 : F17 5 = F 5 := (congrFun eF17 5).trans ((va_up_ne _ _ (by omega)).trans v0_5)
        have v17_6 : F17 6 = F 6 := (congrFun eF17 6).trans ((va_up_ne _ _ (by omega)).trans v0_6)
        have v17_17 : F17 17 = F 17 := (congrFun eF17 17).trans ((va_up_ne _ _ (by omega)).trans v0_17)
        clear eF17
        refine z_aload_n X 0 rfl rfl dX4_shared_48 ?_
        refine z_aload_n X 0 rfl rfl dX4_shared_49 ?_
        refine z_get X zinX4 0 (by omega) gM_O (ci := 6) rfl 10 (by decide) (ref := "TowerFieldsModel") zw681 rfl rfl dX4_shared_50 ?_
        refine z_callVv X zm_X4_makeMonic zw882 zp45 zw880 (zFit_of (by decide) (by decide)) [.ref (ad (8))] (q_makeMonic HU HA l O17 (x := 8) (by decide)) rfl rfl (Nat.le_of_ble_eq_true rfl) (by omega) gM_O (q := vwCl[6]) rfl rfl dX4_shared_53 (fun S18 O18 => ?_)
        obtain ⟨F18, eF18⟩ : ∃ Fz, Fz = va_up F17 8 (mp_C ca (mp_C cu (mf_inv (mp_lc cu (mp_lc ca (F17 8))))) * (F17 8)) := ⟨_, rfl⟩
        rw [← eF18] at O18
        have v18_8 : F18 8 = mp_C ca (mp_C cu (mf_inv (mp_lc cu (mp_lc ca (F 5))))) * (F 5) := by rw [eF18, va_up_self, v17_8]
        have v18_3 : F18 3 = F 3 := (congrFun eF18 3).trans ((va_up_ne _ _ (by omega)).trans v17_3)
        have v18_4 : F18 4 = F 4 := (congrFun eF18 4).trans ((va_up_ne _ _ (by omega)).trans v17_4)
        have v18_5 : F18 5 = F 5 := (congrFun eF18 5).trans ((va_up_ne _ _ (by omega)).trans v17_5)
        have v18_6 : F18 6 = F 6 := (congrFun eF18 6).trans ((va_up_ne _ _ (by omega)).trans v17_6)
        have v18_17 : F18 17 = F 17 := (congrFun eF18 17).trans ((va_up_ne _ _ (by omega)).trans v17_17)
        clear eF18
        have hB0 : F 6 = 0 := by
          rcases hz28 with r | r
          · omega
          · rcases hz4 with r4 | r4
            · exact absurd r4.2 r.2
            · rcases hz14 with r9 | r9
              · exact r9.2
              · omega
        exact E S18 ⟨F18, O18, by rw [v18_8]; exact mGcd_sym (mGcd_0 HU HA hB0), v18_5, v18_6, v18_17, v18_3, v18_4⟩ rfl dX4_shared_56
      · refine z_aload_n X 0 rfl rfl dX4_shared_34 ?_
        refine z_get X zinX4 0 (by omega) gM_O (ci := 6) rfl 8 (by decide) (ref := "TowerFieldsModel") zw679 rfl rfl dX4_shared_35 ?_
        refine z_goto X (tgt := 45) dX4_shared_38 (by decide) ?_
        refine z_callSv X zm_X4_copy zw806 zw805 (zFit_of (by decide) (by decide)) [.ref (ad (8)), .ref (ad (6))] (q_copy HU HA l hO (x := 8) (y := 6) (by decide) (by decide) (by omega)) rfl rfl (Nat.le_of_ble_eq_true rfl) dX4_shared_45 (fun S19 O19 => ?_)
        obtain ⟨F19, eF19⟩ : ∃ Fz, Fz = va_up F 8 (F 6) := ⟨_, rfl⟩
        rw [← eF19] at O19
        have v19_8 : F19 8 = F 6 := by rw [eF19, va_up_self, v0_6]
        have v19_3 : F19 3 = F 3 := (congrFun eF19 3).trans ((va_up_ne _ _ (by omega)).trans v0_3)
        have v19_4 : F19 4 = F 4 := (congrFun eF19 4).trans ((va_up_ne _ _ (by omega)).trans v0_4)
        have v19_5 : F19 5 = F 5 := (congrFun eF19 5).trans ((va_up_ne _ _ (by omega)).trans v0_5)
        have v19_6 : F19 6 = F 6 := (congrFun eF19 6).trans ((va_up_ne _ _ (by omega)).trans v0_6)
        have v19_17 : F19 17 = F 17 := (congrFun eF19 17).trans ((va_up_ne _ _ (by omega)).trans v0_17)
        clear eF19
        refine z_aload_n X 0 rfl rfl dX4_shared_48 ?_
        refine z_aload_n X 0 rfl rfl dX4_shared_49 ?_
        refine z_get X zinX4 0 (by omega) gM_O (ci := 6) rfl 10 (by decide) (ref := "TowerFieldsModel") zw681 rfl rfl dX4_shared_50 ?_
        refine z_callVv X zm_X4_makeMonic zw882 zp45 zw880 (zFit_of (by decide) (by decide)) [.ref (ad (8))] (q_makeMonic HU HA l O19 (x := 8) (by decide)) rfl rfl (Nat.le_of_ble_eq_true rfl) (by omega) gM_O (q := vwCl[6]) rfl rfl dX4_shared_53 (fun S20 O20 => ?_)
        obtain ⟨F20, eF20⟩ : ∃ Fz, Fz = va_up F19 8 (mp_C ca (mp_C cu (mf_inv (mp_lc cu (mp_lc ca (F19 8))))) * (F19 8)) := ⟨_, rfl⟩
        rw [← eF20] at O20
        have v20_8 : F20 8 = mp_C ca (mp_C cu (mf_inv (mp_lc cu (mp_lc ca (F 6))))) * (F 6) := by rw [eF20, va_up_self, v19_8]
        have v20_3 : F20 3 = F 3 := (congrFun eF20 3).trans ((va_up_ne _ _ (by omega)).trans v19_3)
        have v20_4 : F20 4 = F 4 := (congrFun eF20 4).trans ((va_up_ne _ _ (by omega)).trans v19_4)
        have v20_5 : F20 5 = F 5 := (congrFun eF20 5).trans ((va_up_ne _ _ (by omega)).trans v19_5)
        have v20_6 : F20 6 = F 6 := (congrFun eF20 6).trans ((va_up_ne _ _ (by omega)).trans v19_6)
        have v20_17 : F20 17 = F 17 := (congrFun eF20 17).trans ((va_up_ne _ _ (by omega)).trans v19_17)
        clear eF20
        have hA0 : F 5 = 0 := by
          rcases hz28 with r | r
          · exact r.2
          · omega
        exact E S20 ⟨F20, O20, by rw [v20_8]; exact mGcd_0 HU HA hA0, v20_5, v20_6, v20_17, v20_3, v20_4⟩ rfl dX4_shared_56
set_option maxHeartbeats 8000000 in
set_option maxRecDepth 100000 in
theorem c_X4_common {U V : Type} [Lean.Grind.CommRing U] [Lean.Grind.CommRing V] {cu : U → Nat → FP} {ca : V → Nat → U} (HU : mp_P cu) (HA : mp_P ca) (l : Launch) {D : va_G} {ad : Nat → Nat} {cI : ClassId} {EL : Int → V × V} {md kd : Int} {W sD : V} {cd : Int} {M : zM} (hC : zGm cu ca EL md kd W sD cd M) {n1 n2 : Int} (hn1 : -2147483648 ≤ n1 ∧ n1 < 2147483648) (hn2 : -2147483648 ≤ n2 ∧ n2 < 2147483648) : zMi l yX4_common cX4_common 3 (some .int) 4 D (zTyM cI) 18 ad [.ref (ad 0), .int (iZ (n1)), .int (iZ (n2))] (gM ad cI M) (gM ad cI) (fun z u => (¬ ((0 ≤ n1 ∧ n1 < md) ∧ (0 ≤ n2 ∧ n2 < md)) ∧ zGm cu ca EL md kd W sD 1 u) ∨ (((0 ≤ n1 ∧ n1 < md) ∧ (0 ≤ n2 ∧ n2 < md)) ∧ ¬ md < 120 ∧ zGm cu ca EL md kd W sD 2 u) ∨ (((0 ≤ n1 ∧ n1 < md) ∧ (0 ≤ n2 ∧ n2 < md)) ∧ md < 120 ∧ z = md ∧ ∃ d, mGcd cu ca (EL n1).1 (EL n2).1 d ∧ zGm cu ca (zUp EL md (d, 1)) (md + 1) kd W sD 0 u)) := by
  have hC0 := hC
  obtain ⟨⟨F, T, hO, hG⟩, hS⟩ := hC
  have hmd : M.2.2.2.1 = md := (zO_rm hO).trans hG.2.2.1
  have hkd : M.2.2.2.2.1 = kd := (zO_rk hO).trans hG.2.2.2.1
  have hm : 0 ≤ md ∧ md ≤ 120 := by
    have q1 := hG.1.1
    have q2 := hG.1.2.1
    rw [hG.2.2.1] at q1 q2
    exact ⟨q1, q2⟩
  have hel : ∀ n, 0 ≤ n → n < md → mEl cu ca T.1 n (EL n).1 ∧ mEl cu ca T.2.1 n (EL n).2 := fun n h0 h1 => hG.1.2.2 n h0 (by rw [hG.2.2.1]; exact h1)
  have v0_3 : F 3 = F 3 := rfl
  have v0_4 : F 4 = F 4 := rfl
  refine z_goi zm_X4_common (Nat.le_of_ble_eq_true rfl) [(0, .ref (ad 0)), (1, .int (iZ (n1))), (2, .int (iZ (n2)))] rfl (fun p e s m args below meth c A Q X E => ?_)
  refine z_aload_n X 0 rfl rfl dX4_common_0 ?_
  refine z_iload_n X 1 rfl rfl dX4_common_1 ?_
  refine z_iload_n X 2 rfl rfl dX4_common_2 ?_
  refine z_callVi X zm_X4_are zw771 zp29 zw769 (zFit_of (by decide) (by decide)) [.int (iZ (n1)), .int (iZ (n2))] (c_X4_are l M hn1 hn2 hmd hm) rfl rfl (Nat.le_of_ble_eq_true rfl) (by omega) gM_O (q := vwCl[6]) rfl rfl dX4_common_3 (fun z1 S1 hz1 => ?_)
  have hy1 : z1 = 0 ∨ z1 = 1 := by
    rcases hz1 with q | q | q
    · exact Or.inl q.2.1
    · exact Or.inl q.2.2.1
    · exact Or.inr q.2.2.1
  refine z_if_ne X (tgt := 11) (by omega) dX4_common_6 (by decide) (fun hb6 => ?_) (fun hb6 => ?_)
  · obtain ⟨hd, hlt, eS1⟩ : ((0 ≤ n1 ∧ n1 < md) ∧ (0 ≤ n2 ∧ n2 < md)) ∧ md < 120 ∧ S1 = fcode M 0 := by
      rcases hz1 with q | q | q
      · exact absurd q.2.1 (by omega)
      · exact absurd q.2.2.1 (by omega)
      · exact ⟨q.1, q.2.1, q.2.2.2⟩
    have O1 := zO_code hO (0)
    rw [← eS1] at O1
    have G1 := mG_code hG (0)
    have hcode1 : S1.2.2.1 = 0 := by rw [eS1]; rfl
    have hmd1 : S1.2.2.2.1 = md := (zO_rm O1).trans G1.2.2.1
    have hkd1 : S1.2.2.2.2.1 = kd := (zO_rk O1).trans G1.2.2.2.1
    obtain ⟨x1a, x1b⟩ := hel n1 (by omega) (by omega)
    obtain ⟨x2a, x2b⟩ := hel n2 (by omega) (by omega)
    refine z_aload_n X 0 rfl rfl dX4_common_11 ?_
    refine z_aload_n X 0 rfl rfl dX4_common_12 ?_
    refine z_get X zinX4 0 (by omega) gM_O (ci := 6) rfl 7 (by decide) (ref := "TowerFieldsModel") zw678 rfl rfl dX4_common_13 ?_
    refine z_aload_n X 0 rfl rfl dX4_common_16 ?_
    refine z_get X zinX4 0 (by omega) gM_O (ci := 6) rfl 2 (by decide) (ref := "TowerFieldsModel") zw673 rfl rfl dX4_common_17 ?_
    refine z_iload_n X 1 rfl rfl dX4_common_20 ?_
    refine z_callVv X zm_X4_load zw787 zp33 zw785 (zFit_of (by decide) (by decide)) [.ref (ad (5)), .ref (ad (1)), .int (iZ (n1))] (q_load HU HA l O1 (x := 5) (r := 1) (by decide) (by omega) (by omega) (by omega) (a := (EL n1).1) (by rw [zO_r1 O1]; exact x1a)) rfl rfl (Nat.le_of_ble_eq_true rfl) (by omega) gM_O (q := vwCl[6]) rfl rfl dX4_common_21 (fun S2 O2 => ?_)
    obtain ⟨F2, eF2⟩ : ∃ Fz, Fz = va_up F 5 ((EL n1).1) := ⟨_, rfl⟩
    rw [← eF2] at O2
    have v2_5 : F2 5 = (EL n1).1 := by rw [eF2, va_up_self]
    have v2_3 : F2 3 = F 3 := (congrFun eF2 3).trans ((va_up_ne _ _ (by omega)).trans v0_3)
    have v2_4 : F2 4 = F 4 := (congrFun eF2 4).trans ((va_up_ne _ _ (by omega)).trans v0_4)
    clear eF2
    refine z_aload_n X 0 rfl rfl dX4_common_24 ?_
    refine z_aload_n X 0 rfl rfl dX4_common_25 ?_
    refine z_get X zinX4 0 (by omega) gM_O (ci := 6) rfl 8 (by decide) (ref := "TowerFieldsModel") zw679 rfl rfl dX4_common_26 ?_
    refine z_aload_n X 0 rfl rfl dX4_common_29 ?_
    refine z_get X zinX4 0 (by omega) gM_O (ci := 6) rfl 2 (by decide) (ref := "TowerFieldsModel") zw673 rfl rfl dX4_common_30 ?_
    refine z_iload_n X 2 rfl rfl dX4_common_33 ?_
    refine z_callVv X zm_X4_load zw787 zp33 zw785 (zFit_of (by decide) (by decide)) [.ref (ad (6)), .ref (ad (1)), .int (iZ (n2))] (q_load HU HA l O2 (x := 6) (r := 1) (by decide) (by omega) (by omega) (by omega) (a := (EL n2).1) (by rw [zO_r1 O2]; exact x2a)) rfl rfl (Nat.le_of_ble_eq_true rfl) (by omega) gM_O (q := vwCl[6]) rfl rfl dX4_common_34 (fun S3 O3 => ?_)
    obtain ⟨F3, eF3⟩ : ∃ Fz, Fz = va_up F2 6 ((EL n2).1) := ⟨_, rfl⟩
    rw [← eF3] at O3
    have v3_6 : F3 6 = (EL n2).1 := by rw [eF3, va_up_self]
    have v3_3 : F3 3 = F 3 := (congrFun eF3 3).trans ((va_up_ne _ _ (by omega)).trans v2_3)
    have v3_4 : F3 4 = F 4 := (congrFun eF3 4).trans ((va_up_ne _ _ (by omega)).trans v2_4)
    have v3_5 : F3 5 = (EL n1).1 := (congrFun eF3 5).trans ((va_up_ne _ _ (by omega)).trans v2_5)
    clear eF3
    refine z_aload_n X 0 rfl rfl dX4_common_37 ?_
    refine z_callVv X zm_X4_shared zw878 zp44 zw876 (zFit_of (by decide) (by decide)) [] (q_shared HU HA l O3 (by rw [v3_5]; exact x1a.2) (by rw [v3_6]; exact x2a.2)) rfl rfl (Nat.le_of_ble_eq_true rfl) (by omega) gM_O (q := vwCl[6]) rfl rfl dX4_common_38 (fun S4 O4 => ?_)
    obtain ⟨F4, O4, hgc, k5, k6, k17, k3, k4⟩ := O4
    rw [v3_5, v3_6] at hgc
    have v4_3 : F4 3 = F 3 := k3.trans v3_3
    have v4_4 : F4 4 = F 4 := k4.trans v3_4
    obtain ⟨dd, edd⟩ : ∃ dd, dd = F4 8 := ⟨_, rfl⟩
    rw [← edd] at hgc
    have bdd := mGcd_b HU HA hgc (s := 6) (x := 6) x1a.2 x2a.2
    refine z_aload_n X 0 rfl rfl dX4_common_41 ?_
    refine z_get X zinX4 0 (by omega) gM_O (ci := 6) rfl 12 (by decide) (ref := "TowerFieldsModel") zw683 rfl rfl dX4_common_42 ?_
    refine z_aload_n X 0 rfl rfl dX4_common_45 ?_
    refine z_get X zinX4 0 (by omega) gM_O (ci := 6) rfl 10 (by decide) (ref := "TowerFieldsModel") zw681 rfl rfl dX4_common_46 ?_
    refine z_callSv X zm_X4_copy zw806 zw805 (zFit_of (by decide) (by decide)) [.ref (ad (10)), .ref (ad (8))] (q_copy HU HA l O4 (x := 10) (y := 8) (by decide) (by decide) (by omega)) rfl rfl (Nat.le_of_ble_eq_true rfl) dX4_common_49 (fun S5 O5 => ?_)
    obtain ⟨F5, eF5⟩ : ∃ Fz, Fz = va_up F4 10 (F4 8) := ⟨_, rfl⟩
    rw [← eF5] at O5
    have v5_10 : F5 10 = dd := by rw [eF5, va_up_self, edd.symm]
    have v5_3 : F5 3 = F 3 := (congrFun eF5 3).trans ((va_up_ne _ _ (by omega)).trans v4_3)
    have v5_4 : F5 4 = F 4 := (congrFun eF5 4).trans ((va_up_ne _ _ (by omega)).trans v4_4)
    have v5_8 : F5 8 = dd := (congrFun eF5 8).trans ((va_up_ne _ _ (by omega)).trans edd.symm)
    clear eF5
    refine z_aload_n X 0 rfl rfl dX4_common_52 ?_
    refine z_aload_n X 0 rfl rfl dX4_common_53 ?_
    refine z_get X zinX4 0 (by omega) gM_O (ci := 6) rfl 13 (by decide) (ref := "TowerFieldsModel") zw684 rfl rfl dX4_common_54 ?_
    refine z_callVv X zm_X4_one zw752 zp27 zw750 (zFit_of (by decide) (by decide)) [.ref (ad (11))] (q_one HU HA l O5 (x := 11) (by decide)) rfl rfl (Nat.le_of_ble_eq_true rfl) (by omega) gM_O (q := vwCl[6]) rfl rfl dX4_common_57 (fun S6 O6 => ?_)
    obtain ⟨F6, eF6⟩ : ∃ Fz, Fz = va_up F5 11 (1) := ⟨_, rfl⟩
    rw [← eF6] at O6
    have v6_11 : F6 11 = 1 := by rw [eF6, va_up_self]
    have v6_3 : F6 3 = F 3 := (congrFun eF6 3).trans ((va_up_ne _ _ (by omega)).trans v5_3)
    have v6_4 : F6 4 = F 4 := (congrFun eF6 4).trans ((va_up_ne _ _ (by omega)).trans v5_4)
    have v6_8 : F6 8 = dd := (congrFun eF6 8).trans ((va_up_ne _ _ (by omega)).trans v5_8)
    have v6_10 : F6 10 = dd := (congrFun eF6 10).trans ((va_up_ne _ _ (by omega)).trans v5_10)
    clear eF6
    refine z_aload_n X 0 rfl rfl dX4_common_60 ?_
    refine z_callVi X zm_X4_keep zw759 zp28 zw757 (zFit_of (by decide) (by decide)) [] (q_keep HU HA l O6 (mG_F G1 (F9 := F6) (v6_3.trans (rfl : F 3 = F 3).symm) (v6_4.trans (rfl : F 4 = F 4).symm)) hS hlt (p := dd) (q := 1) v6_10 v6_11 bdd (zbox_1 HU HA)) rfl rfl (Nat.le_of_ble_eq_true rfl) (by omega) gM_O (q := vwCl[6]) rfl rfl dX4_common_61 (fun z7 S7 hz7 => ?_)
    exact E S7 (Or.inr (Or.inr ⟨hd, hlt, hz7.1, dd, hgc, hz7.2⟩)) rfl dX4_common_64
  · refine z_iconst X (n := 0) dX4_common_9 ?_
    rcases hz1 with ⟨q1, q2, q3⟩ | ⟨q1, q2, q3, q4⟩ | ⟨q1, q2, q3, q4⟩
    · exact E S1 (Or.inl ⟨q1, by rw [q3]; exact zGm_code hC0 1⟩) rfl dX4_common_10
    · exact E S1 (Or.inr (Or.inl ⟨q1, q2, by rw [q4]; exact zGm_code hC0 2⟩)) rfl dX4_common_10
    · exact absurd q3 (by omega)
