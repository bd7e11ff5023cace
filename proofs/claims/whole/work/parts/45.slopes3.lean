set_option maxHeartbeats 8000000 in
set_option maxRecDepth 100000 in
theorem c_X3_makeSquareFree {U V : Type} [Lean.Grind.CommRing U] [Lean.Grind.CommRing V] {cu : U → Nat → FP} {ca : V → Nat → U} (HU : mp_P cu) (HA : mp_P ca) (l : Launch) {D : va_G} {ad : Nat → Nat} {cI cO : ClassId} {P : Nat → U} {T : zRest} {S : zS} (hR : zR cu P T S) {a : V} (hva : zV ca P 0 a) (hb : zb cu ca 7 a) (ha : a ≠ 0) : zMv l yX3_makeSquareFree cX3_makeSquareFree 3 6 D (zTy cI cO) 419 ad [.ref (ad 0), .ref (ad (0 + 3))] (gC ad cI cO S) (gC ad cI cO) (fun u => ∃ P9 f x y, zR cu P9 T u ∧ zV ca P9 0 x ∧ mp_lc cu (mp_lc ca f) = 1 ∧ a = f * x ∧ md_d ca a = f * y ∧ mp_Cp x y ∧ ∀ j, ((78 ≤ j ∧ j < 117) ∨ j = 182 ∨ j = 183) → P9 j = P j) := by
  have hrow : ∀ i, mp_sz cu (ca a i) ≤ 7 := fun i => Nat.le_trans (mp_xz_row HU HA a i) hb.2
  refine z_gov zm_X3_makeSquareFree (Nat.le_of_ble_eq_true rfl) [(0, .ref (ad 0)), (1, .ref (ad (0 + 3)))] rfl (fun p e s m args below meth c A Q X E => ?_)
  refine z_aload_n X 0 rfl rfl dX3_makeSquareFree_0 ?_
  refine z_get X zinX3 0 (by omega) gC_T (ci := 5) rfl 9 (by decide) (ref := "TowerFields") zw129 rfl rfl dX3_makeSquareFree_1 ?_
  refine z_callVv X zm_X2_clear zw286 zw287 zw285 (zFit_of (by decide) (by decide)) [] (c_X2_clear HU l hR (q := 4) (by omega)) rfl rfl (Nat.le_of_ble_eq_true rfl) (by omega) (gC_P (by omega)) (q := vwCl[4]) rfl rfl dX3_makeSquareFree_4 (fun S1 R1 => ?_)
  rw [pwn_zA HA] at R1
  obtain ⟨P1, eP1, vP1, kP1, fP1⟩ := zP_new ca P 4 ((0 : V)) (zs0 HA)
  rw [← eP1] at R1
  refine z_iconst X (n := 1) dX3_makeSquareFree_7 ?_
  refine z_istore_n X [(2, .int (iZ (1))), (0, .ref (ad 0)), (1, .ref (ad (0 + 3)))] rfl rfl (by decide) dX3_makeSquareFree_8 ?_
  have loop : ∀ (n : Nat) (i : Int) (P4 : Nat → U) (S4 : zS), i + n = 7 → 1 ≤ i → zR cu P4 T S4 → (∀ j, (j < 52 ∨ 65 ≤ j) → P4 j = P j) → (∀ r, r < 13 → P4 (13 * 4 + r) = @ite U ((r : Int) + 1 < i) (Classical.propDecidable _) (mr_nR (r + 1) * ca a (r + 1)) 0) → Z p l e (zRm 6) s m args below meth c 3 D 419 ad A 0 0 Q 9 [(2, .int (iZ (i))), (0, .ref (ad 0)), (1, .ref (ad (0 + 3)))] [] (gC ad cI cO S4) := by
    intro n
    induction n with
    | zero =>
      intro i P4 S4 h1 h2 h3 h4 h5
      refine z_iload_n X 0 rfl rfl dX3_makeSquareFree_9 ?_
      refine z_bipush X (n := 7) (by decide) dX3_makeSquareFree_10 ?_
      refine z_icmp_ge X (tgt := 41) (by omega) (by omega) dX3_makeSquareFree_12 (by decide) (fun hb12 => ?_) (fun hb12 => absurd hb12 (by omega))
      have hd4 : zV ca P4 4 (md_d ca a) := ⟨fun r hr => by
        rw [h5 r hr, md_cf HA]
        split
        · rfl
        · rw [mp_sz_out HA (by have := hb.1; omega)]; grind, mp_sz_le HA (fun r hr => by rw [md_cf HA, mp_sz_out HA (by have := hb.1; omega)]; grind)⟩
      have ha4 : zV ca P4 0 a := zV_eq hva (fun i hi => h4 _ (by omega))
      have hxd : mp_xz cu ca (md_d ca a) ≤ 26 := mp_xz_le HU HA (fun r => by
        rw [md_cf HA, mr_nR_C HU]
        refine Nat.le_trans (mp_sz_mul_le HU (m := 0) (n := 6) (mp_sz_le HU (fun j hj => by rw [mp_C_cf HU, if_neg (by omega)])) (hrow _)) (by omega))
      refine z_aload_n X 1 rfl rfl dX3_makeSquareFree_41 ?_
      refine z_get X zinX3 0 (by omega) gC_T (ci := 5) rfl 14 (by decide) (ref := "TowerFields") zw134 rfl rfl dX3_makeSquareFree_42 ?_
      refine z_aload_n X 2 rfl rfl dX3_makeSquareFree_45 ?_
      refine z_aload_n X 1 rfl rfl dX3_makeSquareFree_46 ?_
      refine z_get X zinX3 0 (by omega) gC_T (ci := 5) rfl 9 (by decide) (ref := "TowerFields") zw129 rfl rfl dX3_makeSquareFree_47 ?_
      refine z_callVv X zm_X0_find zw428 zw429 zw427 (zFit_of (by decide) (by decide)) [.ref (ad (0 + 3)), .ref (ad (4 + 3))] (c_X0_find HU HA l h3 (q1 := 0) (q2 := 4) (by omega) (by omega) ha4 hd4 (by have := hb.2; omega) hxd) rfl rfl (Nat.le_of_ble_eq_true rfl) (by omega) gC_D (q := vwCl[2]) rfl rfl dX3_makeSquareFree_50 (fun S5 hu5 => ?_)
      obtain ⟨P5, R5, f5, f, hf, ho⟩ := hu5
      obtain ⟨hl1, x, y, hx, hy, ex, ey, hcp⟩ := ho.resolve_left (fun q => ha q.1)
      refine z_aload_n X 2 rfl rfl dX3_makeSquareFree_53 ?_
      refine z_aload_n X 1 rfl rfl dX3_makeSquareFree_54 ?_
      refine z_get X zinX3 0 (by omega) gC_T (ci := 5) rfl 14 (by decide) (ref := "TowerFields") zw134 rfl rfl dX3_makeSquareFree_55 ?_
      refine z_get X zinX0 2 (by omega) gC_D (ci := 2) rfl 1 (by decide) (ref := "TowerFields$Divisor") zw66 rfl rfl dX3_makeSquareFree_58 ?_
      refine z_callVv X zm_X2_copyOf zw433 zw434 zw622 (zFit_of (by decide) (by decide)) [.ref (ad (10 + 3))] (c_X2_copyOf HU l R5 (q := 0) (q2 := 10) (by omega) (by omega) (by omega)) rfl rfl (Nat.le_of_ble_eq_true rfl) (by omega) (gC_P (by omega)) (q := vwCl[4]) rfl rfl dX3_makeSquareFree_61 (fun S6 R6 => ?_)
      exact E S6 ⟨_, f, x, y, R6, ⟨fun i hi => by rw [pwn_in P5 0 _ hi]; exact hx.1 i hi, hx.2⟩, hl1, ex, ey, hcp, fun j hj => by rw [pwn_out P5 0 _ (by omega), f5 j (by omega), h4 j (by omega)]⟩ rfl dX3_makeSquareFree_64
    | succ n ih =>
      intro i P4 S4 h1 h2 h3 h4 h5
      have k0 : P4 (13 * 0 + (i).toNat) = ca a i.toNat := by rw [h4 _ (by omega)]; exact hva.1 _ (by omega)
      have hri := hrow i.toNat
      refine z_iload_n X 0 rfl rfl dX3_makeSquareFree_9 ?_
      refine z_bipush X (n := 7) (by decide) dX3_makeSquareFree_10 ?_
      refine z_icmp_ge X (tgt := 41) (by omega) (by omega) dX3_makeSquareFree_12 (by decide) (fun hb12 => absurd hb12 (by omega)) (fun hb12 => ?_)
      refine z_aload_n X 1 rfl rfl dX3_makeSquareFree_15 ?_
      refine z_get X zinX3 0 (by omega) gC_T (ci := 5) rfl 9 (by decide) (ref := "TowerFields") zw129 rfl rfl dX3_makeSquareFree_16 ?_
      refine z_iload_n X 0 rfl rfl dX3_makeSquareFree_19 ?_
      refine z_iconst X (n := 1) dX3_makeSquareFree_20 ?_
      refine z_isub X dX3_makeSquareFree_21 ?_
      refine z_callVr X zm_X2_row zw113 zw114 zw112 (zFit_of (by decide) (by decide)) [.int (iZ (i - 1))] (c_X2_row l S4 (q := 4) (by omega) (i := i - 1) (by omega)) rfl rfl (Nat.le_of_ble_eq_true rfl) (by omega) (gC_P (by omega)) (q := vwCl[4]) rfl rfl dX3_makeSquareFree_22 (fun j _ hz => ?_)
      have hj := zr_row hz (by omega) (by omega)
      subst hj
      refine z_aload_n X 2 rfl rfl dX3_makeSquareFree_25 ?_
      refine z_iload_n X 0 rfl rfl dX3_makeSquareFree_26 ?_
      refine z_callVr X zm_X2_row zw113 zw114 zw112 (zFit_of (by decide) (by decide)) [.int (iZ (i))] (c_X2_row l S4 (q := 0) (by omega) (i := i) (by omega)) rfl rfl (Nat.le_of_ble_eq_true rfl) (by omega) (gC_P (by omega)) (q := vwCl[4]) rfl rfl dX3_makeSquareFree_27 (fun j _ hz => ?_)
      have hj := zr_row hz (by omega) (by omega)
      subst hj
      refine z_iload_n X 0 rfl rfl dX3_makeSquareFree_30 ?_
      refine z_eqi (b := vz (mf_n i.toNat)) (vz_ofn (by omega) (by omega)).symm ?_
      refine z_iconst X (n := 0) dX3_makeSquareFree_31 ?_
      refine z_callVv X zm_X1_plusShifted zw402 zw403 zw621 (zFit_of (by decide) (by decide)) [.ref (ad (13 * 0 + (i).toNat + 31)), .int (iZ (vz (mf_n i.toNat))), .int (iZ (0))] (c_X1_plusShifted HU l h3 (k := 13 * 4 + (i - 1).toNat) (k2 := 13 * 0 + (i).toNat) (by omega) (by omega) (by omega) (mf_n i.toNat) (sh := 0) (by omega) (by omega) (Or.inr (by rw [k0]; omega))) rfl rfl (Nat.le_of_ble_eq_true rfl) (by omega) (gC_L (by omega)) (q := vwCl[3]) rfl rfl dX3_makeSquareFree_32 (fun S5 R5 => ?_)
      rw [k0] at R5
      refine z_iinc X [(2, .int (iZ (i + 1))), (0, .ref (ad 0)), (1, .ref (ad (0 + 3)))] 0 rfl rfl (by decide) dX3_makeSquareFree_35 ?_
      refine z_goto X (tgt := 9) dX3_makeSquareFree_38 (by decide) ?_
      refine ih (i + 1) _ S5 (by omega) (by omega) R5 (fun j hj => by rw [va_up_ne _ _ (by omega)]; exact h4 j hj) (fun r hr => ?_)
      clear ih
      by_cases e1 : r = (i - 1).toNat
      · rw [← e1, va_up_self, h5 _ (by omega), if_neg (by omega), if_pos (by omega), mr_nR_C HU, mr_nR_FP, show i.toNat = r + 1 by omega]
        show (0 : U) + mp_C cu (mf_n (r + 1)) * ca a (r + 1) = _
        grind
      · rw [va_up_ne _ _ (by omega), h5 r hr]
        by_cases e2 : (r : Int) + 1 < i
        · rw [if_pos e2, if_pos (show ((r : Nat) : Int) + 1 < i + 1 by omega)]
        · rw [if_neg e2, if_neg (show ¬ ((r : Nat) : Int) + 1 < i + 1 by omega)]
  exact loop 6 1 P1 S1 (by omega) (by omega) R1 (fun j hj => fP1 j (by omega)) (fun r hr => by rw [if_neg (by omega), vP1.1 r hr, mp_zero HA])
set_option maxHeartbeats 8000000 in
set_option maxRecDepth 100000 in
theorem c_X3_splitSquareFree {U V : Type} [Lean.Grind.CommRing U] [Lean.Grind.CommRing V] {cu : U → Nat → FP} {ca : V → Nat → U} (HU : mp_P cu) (HA : mp_P ca) (l : Launch) {D : va_G} {ad : Nat → Nat} {cI cO : ClassId} {P : Nat → U} {T : zRest} {S : zS} (hR : zR cu P T S) {a : V} (hva : zV ca P 0 a) (hb : zb cu ca 7 a) (ha : a ≠ 0) (hA : mp_sz cu (P 182) ≤ 13) (hB : mp_sz cu (P 183) ≤ 13) (hk : -2147483648 ≤ T.2.2 ∧ T.2.2 < 2147483648) {kp : Int} (hkp : -2147483648 ≤ kp ∧ kp < 2147483648) : zMv l yX3_splitSquareFree cX3_splitSquareFree 3 6 D (zTy cI cO) 419 ad [.ref (ad 0), .ref (ad (0 + 3)), .int (iZ kp)] (gC ad cI cO S) (gC ad cI cO) (fun u => ∃ P9 f x y, zR cu P9 T u ∧ zV ca P9 0 (if kp = 4 then f else x) ∧ mp_lc cu (mp_lc ca f) = 1 ∧ a = f * x ∧ zE cu ca P T a = f * y ∧ mp_Cp x y ∧ ∀ j, ((78 ≤ j ∧ j < 117) ∨ j = 182 ∨ j = 183) → P9 j = P j) := by
  have hE := zE_b HU HA T.2.2 hA hB hb
  refine z_gov zm_X3_splitSquareFree (Nat.le_of_ble_eq_true rfl) [(0, .ref (ad 0)), (1, .ref (ad (0 + 3))), (2, .int (iZ (kp)))] rfl (fun p e s m args below meth c A Q X E => ?_)
  refine z_aload_n X 0 rfl rfl dX3_splitSquareFree_0 ?_
  refine z_aload_n X 1 rfl rfl dX3_splitSquareFree_1 ?_
  refine z_aload_n X 0 rfl rfl dX3_splitSquareFree_2 ?_
  refine z_get X zinX3 0 (by omega) gC_T (ci := 5) rfl 9 (by decide) (ref := "TowerFields") zw129 rfl rfl dX3_splitSquareFree_3 ?_
  refine z_callVv X zm_X3_slopeOfPoly zw394 zp10 zw392 (zFit_of (by decide) (by decide)) [.ref (ad (0 + 3)), .ref (ad (4 + 3))] (c_X3_slopeOfPoly HU HA l hR (q := 0) (q9 := 4) (by omega) (by omega) (by omega) hva hb hA hB hk) rfl rfl (Nat.le_of_ble_eq_true rfl) (by omega) gC_T (q := vwCl[5]) rfl rfl dX3_splitSquareFree_6 (fun S1 R1 => ?_)
  obtain ⟨P1, eP1, vP1, kP1, fP1⟩ := zP_new ca P 4 (md_E cu ca (P 183) (zW ca T.2.2 (P 182)) a) (Nat.le_trans hE.1 (by omega))
  rw [← eP1] at R1
  refine z_aload_n X 0 rfl rfl dX3_splitSquareFree_9 ?_
  refine z_get X zinX3 0 (by omega) gC_T (ci := 5) rfl 14 (by decide) (ref := "TowerFields") zw134 rfl rfl dX3_splitSquareFree_10 ?_
  refine z_aload_n X 1 rfl rfl dX3_splitSquareFree_13 ?_
  refine z_aload_n X 0 rfl rfl dX3_splitSquareFree_14 ?_
  refine z_get X zinX3 0 (by omega) gC_T (ci := 5) rfl 9 (by decide) (ref := "TowerFields") zw129 rfl rfl dX3_splitSquareFree_15 ?_
  refine z_callVv X zm_X0_find zw428 zw429 zw427 (zFit_of (by decide) (by decide)) [.ref (ad (0 + 3)), .ref (ad (4 + 3))] (c_X0_find HU HA l R1 (q1 := 0) (q2 := 4) (by omega) (by omega) (kP1 0 a (by omega) hva) vP1 (by have := hb.2; omega) (by have := hE.2; omega)) rfl rfl (Nat.le_of_ble_eq_true rfl) (by omega) gC_D (q := vwCl[2]) rfl rfl dX3_splitSquareFree_18 (fun S2 hu2 => ?_)
  obtain ⟨P2, R2, f2, f, hf, ho⟩ := hu2
  obtain ⟨hl1, x, y, hx, hy, ex, ey, hcp⟩ := ho.resolve_left (fun q => ha q.1)
  refine z_aload_n X 1 rfl rfl dX3_splitSquareFree_21 ?_
  refine z_iload_n X 2 rfl rfl dX3_splitSquareFree_22 ?_
  refine z_iconst X (n := 4) dX3_splitSquareFree_23 ?_
  refine z_icmp_ne X (tgt := 37) (by omega) (by omega) dX3_splitSquareFree_24 (by decide) (fun hb24 => ?_) (fun hb24 => ?_)
  · refine z_aload_n X 0 rfl rfl dX3_splitSquareFree_37 ?_
    refine z_get X zinX3 0 (by omega) gC_T (ci := 5) rfl 14 (by decide) (ref := "TowerFields") zw134 rfl rfl dX3_splitSquareFree_38 ?_
    refine z_get X zinX0 2 (by omega) gC_D (ci := 2) rfl 1 (by decide) (ref := "TowerFields$Divisor") zw66 rfl rfl dX3_splitSquareFree_41 ?_
    refine z_callVv X zm_X2_copyOf zw433 zw434 zw622 (zFit_of (by decide) (by decide)) [.ref (ad (10 + 3))] (c_X2_copyOf HU l R2 (q := 0) (q2 := 10) (by omega) (by omega) (by omega)) rfl rfl (Nat.le_of_ble_eq_true rfl) (by omega) (gC_P (by omega)) (q := vwCl[4]) rfl rfl dX3_splitSquareFree_44 (fun S3 R3 => ?_)
    exact E S3 ⟨_, f, x, y, R3, (by rw [if_neg (by omega)]; exact ⟨fun i hi => by rw [pwn_in P2 0 _ hi]; exact hx.1 i hi, hx.2⟩), hl1, ex, ey, hcp, fun j hj => by rw [pwn_out P2 0 _ (by omega), f2 j (by omega), fP1 j (by omega)]⟩ rfl dX3_splitSquareFree_47
  · refine z_aload_n X 0 rfl rfl dX3_splitSquareFree_27 ?_
    refine z_get X zinX3 0 (by omega) gC_T (ci := 5) rfl 14 (by decide) (ref := "TowerFields") zw134 rfl rfl dX3_splitSquareFree_28 ?_
    refine z_get X zinX0 2 (by omega) gC_D (ci := 2) rfl 0 (by decide) (ref := "TowerFields$Divisor") zw64 rfl rfl dX3_splitSquareFree_31 ?_
    refine z_goto X (tgt := 44) dX3_splitSquareFree_34 (by decide) ?_
    refine z_callVv X zm_X2_copyOf zw433 zw434 zw622 (zFit_of (by decide) (by decide)) [.ref (ad (9 + 3))] (c_X2_copyOf HU l R2 (q := 0) (q2 := 9) (by omega) (by omega) (by omega)) rfl rfl (Nat.le_of_ble_eq_true rfl) (by omega) (gC_P (by omega)) (q := vwCl[4]) rfl rfl dX3_splitSquareFree_44 (fun S3 R3 => ?_)
    exact E S3 ⟨_, f, x, y, R3, (by rw [if_pos (by omega)]; exact ⟨fun i hi => by rw [pwn_in P2 0 _ hi]; exact hf.1 i hi, hf.2⟩), hl1, ex, ey, hcp, fun j hj => by rw [pwn_out P2 0 _ (by omega), f2 j (by omega), fP1 j (by omega)]⟩ rfl dX3_splitSquareFree_47
set_option maxHeartbeats 8000000 in
set_option maxRecDepth 100000 in
theorem c_X3_setSlope {U V : Type} [Lean.Grind.CommRing U] [Lean.Grind.CommRing V] {cu : U → Nat → FP} {ca : V → Nat → U} (HU : mp_P cu) (HA : mp_P ca) (l : Launch) {D : va_G} {ad : Nat → Nat} {cI cO : ClassId} {P : Nat → U} {T : zRest} {S : zS} (hR : zR cu P T S) {a b d : V} (hva : zV ca P 0 a) (hvb : zV ca P 1 b) (hvd : zV ca P 6 d) (ha : zb cu ca 7 a) (hb : zb cu ca 7 b) (hdx : mp_xz cu ca d ≤ 26) {kp : Int} (hkp : -2147483648 ≤ kp ∧ kp < 2147483648) (hBn : (if kp = 1 then a else b) * b ≠ 0) : zMv l yX3_setSlope cX3_setSlope 2 6 D (zTy cI cO) 419 ad [.ref (ad 0), .int (iZ kp)] (gC ad cI cO S) (gC ad cI cO) (fun u => ∃ P9 f x y, zR cu P9 T u ∧ mp_lc cu (mp_lc ca f) = 1 ∧ d = f * x ∧ (if kp = 1 then a else b) * b = f * y ∧ mp_Cp x y ∧ P9 182 = ca x 0 ∧ P9 183 = ca y 0 ∧ ∀ j, (78 ≤ j ∧ j < 91) ∨ (104 ≤ j ∧ j < 117) → P9 j = P j) := by
  refine z_gov zm_X3_setSlope (Nat.le_of_ble_eq_true rfl) [(0, .ref (ad 0)), (1, .int (iZ (kp)))] rfl (fun p e s m args below meth c A Q X E => ?_)
  refine z_aload_n X 0 rfl rfl dX3_setSlope_0 ?_
  refine z_get X zinX3 0 (by omega) gC_T (ci := 5) rfl 12 (by decide) (ref := "TowerFields") zw132 rfl rfl dX3_setSlope_1 ?_
  refine z_callVv X zm_X2_clear zw286 zw287 zw285 (zFit_of (by decide) (by decide)) [] (c_X2_clear HU l hR (q := 7) (by omega)) rfl rfl (Nat.le_of_ble_eq_true rfl) (by omega) (gC_P (by omega)) (q := vwCl[4]) rfl rfl dX3_setSlope_4 (fun S1 R1 => ?_)
  rw [pwn_zA HA] at R1
  obtain ⟨P1, eP1, vP1, kP1, fP1⟩ := zP_new ca P 7 ((0 : V)) (zs0 HA)
  rw [← eP1] at R1
  refine z_aload_n X 0 rfl rfl dX3_setSlope_7 ?_
  refine z_get X zinX3 0 (by omega) gC_T (ci := 5) rfl 12 (by decide) (ref := "TowerFields") zw132 rfl rfl dX3_setSlope_8 ?_
  refine z_iload_n X 1 rfl rfl dX3_setSlope_11 ?_
  refine z_iconst X (n := 1) dX3_setSlope_12 ?_
  refine z_icmp_ne X (tgt := 23) (by omega) (by omega) dX3_setSlope_13 (by decide) (fun hb13 => ?_) (fun hb13 => ?_)
  · refine z_aload_n X 0 rfl rfl dX3_setSlope_23 ?_
    refine z_get X zinX3 0 (by omega) gC_T (ci := 5) rfl 6 (by decide) (ref := "TowerFields") zw126 rfl rfl dX3_setSlope_24 ?_
    have hB0 : (if kp = 1 then a else b) = b := if_neg (by omega)
    rw [hB0] at hBn
    have mB := zb_mul HU HA (m := 6) (n := 6) hb hb
    refine z_aload_n X 0 rfl rfl dX3_setSlope_27 ?_
    refine z_get X zinX3 0 (by omega) gC_T (ci := 5) rfl 6 (by decide) (ref := "TowerFields") zw126 rfl rfl dX3_setSlope_28 ?_
    refine z_iconst X (n := 1) dX3_setSlope_31 ?_
    refine z_eqi (b := vz (1 : FP)) rfl ?_
    refine z_callVv X zm_X2_plusProduct zw410 zw411 zw409 (zFit_of (by decide) (by decide)) [.ref (ad (1 + 3)), .ref (ad (1 + 3)), .int (iZ (vz (1 : FP)))] (c_X2_plusProduct HU HA l R1 (q := 7) (qa := 1) (qb := 1) (by omega) (by omega) (by omega) (by omega) (by omega) vP1 (kP1 1 b (by omega) hvb) (kP1 1 b (by omega) hvb) (1) (by have := hb.1; have := hb.1; omega) (by have := hb.2; have := hb.2; omega)) rfl rfl (Nat.le_of_ble_eq_true rfl) (by omega) (gC_P (by omega)) (q := vwCl[4]) rfl rfl dX3_setSlope_32 (fun S2 R2 => ?_)
    rw [zpp1 HU HA] at R2
    obtain ⟨P2, eP2, vP2, kP2, fP2⟩ := zP_new ca P1 7 (b * b) mB.1
    rw [← eP2] at R2
    refine z_aload_n X 0 rfl rfl dX3_setSlope_35 ?_
    refine z_get X zinX3 0 (by omega) gC_T (ci := 5) rfl 14 (by decide) (ref := "TowerFields") zw134 rfl rfl dX3_setSlope_36 ?_
    refine z_aload_n X 0 rfl rfl dX3_setSlope_39 ?_
    refine z_get X zinX3 0 (by omega) gC_T (ci := 5) rfl 11 (by decide) (ref := "TowerFields") zw131 rfl rfl dX3_setSlope_40 ?_
    refine z_aload_n X 0 rfl rfl dX3_setSlope_43 ?_
    refine z_get X zinX3 0 (by omega) gC_T (ci := 5) rfl 12 (by decide) (ref := "TowerFields") zw132 rfl rfl dX3_setSlope_44 ?_
    refine z_callVv X zm_X0_find zw428 zw429 zw427 (zFit_of (by decide) (by decide)) [.ref (ad (6 + 3)), .ref (ad (7 + 3))] (c_X0_find HU HA l R2 (q1 := 6) (q2 := 7) (by omega) (by omega) (kP2 6 d (by omega) (kP1 6 d (by omega) hvd)) vP2 (by omega) (by have := mB.2; omega)) rfl rfl (Nat.le_of_ble_eq_true rfl) (by omega) gC_D (q := vwCl[2]) rfl rfl dX3_setSlope_47 (fun S3 hu3 => ?_)
    obtain ⟨P3, R3, f3, f, hf, ho⟩ := hu3
    obtain ⟨hl1, x, y, hx, hy, ex, ey, hcp⟩ := ho.resolve_left (fun q => hBn q.2.1)
    refine z_aload_n X 0 rfl rfl dX3_setSlope_50 ?_
    refine z_get X zinX3 0 (by omega) gC_T (ci := 5) rfl 3 (by decide) (ref := "TowerFields") zw123 rfl rfl dX3_setSlope_51 ?_
    refine z_aload_n X 0 rfl rfl dX3_setSlope_54 ?_
    refine z_get X zinX3 0 (by omega) gC_T (ci := 5) rfl 14 (by decide) (ref := "TowerFields") zw134 rfl rfl dX3_setSlope_55 ?_
    refine z_get X zinX0 2 (by omega) gC_D (ci := 2) rfl 1 (by decide) (ref := "TowerFields$Divisor") zw66 rfl rfl dX3_setSlope_58 ?_
    refine z_iconst X (n := 0) dX3_setSlope_61 ?_
    refine z_callVr X zm_X2_row zw113 zw114 zw112 (zFit_of (by decide) (by decide)) [.int (iZ (0))] (c_X2_row l S3 (q := 10) (by omega) (i := (0 : Int)) (by omega)) rfl rfl (Nat.le_of_ble_eq_true rfl) (by omega) (gC_P (by omega)) (q := vwCl[4]) rfl rfl dX3_setSlope_62 (fun j _ hz => ?_)
    have hj := zr_row hz (by omega) (by omega)
    subst hj
    refine z_callVv X zm_X1_copyOf zw437 zw438 zw534 (zFit_of (by decide) (by decide)) [.ref (ad (13 * 10 + ((0 : Int)).toNat + 31))] (c_X1_copyOf HU l R3 (k := 182) (k2 := 13 * 10 + (0 : Int).toNat) (by omega) (by omega) (by omega)) rfl rfl (Nat.le_of_ble_eq_true rfl) (by omega) (gC_L (by omega)) (q := vwCl[3]) rfl rfl dX3_setSlope_65 (fun S4 R4 => ?_)
    refine z_aload_n X 0 rfl rfl dX3_setSlope_68 ?_
    refine z_get X zinX3 0 (by omega) gC_T (ci := 5) rfl 4 (by decide) (ref := "TowerFields") zw124 rfl rfl dX3_setSlope_69 ?_
    refine z_aload_n X 0 rfl rfl dX3_setSlope_72 ?_
    refine z_get X zinX3 0 (by omega) gC_T (ci := 5) rfl 14 (by decide) (ref := "TowerFields") zw134 rfl rfl dX3_setSlope_73 ?_
    refine z_get X zinX0 2 (by omega) gC_D (ci := 2) rfl 2 (by decide) (ref := "TowerFields$Divisor") zw68 rfl rfl dX3_setSlope_76 ?_
    refine z_iconst X (n := 0) dX3_setSlope_79 ?_
    refine z_callVr X zm_X2_row zw113 zw114 zw112 (zFit_of (by decide) (by decide)) [.int (iZ (0))] (c_X2_row l S4 (q := 11) (by omega) (i := (0 : Int)) (by omega)) rfl rfl (Nat.le_of_ble_eq_true rfl) (by omega) (gC_P (by omega)) (q := vwCl[4]) rfl rfl dX3_setSlope_80 (fun j _ hz => ?_)
    have hj := zr_row hz (by omega) (by omega)
    subst hj
    refine z_callVv X zm_X1_copyOf zw437 zw438 zw534 (zFit_of (by decide) (by decide)) [.ref (ad (13 * 11 + ((0 : Int)).toNat + 31))] (c_X1_copyOf HU l R4 (k := 183) (k2 := 13 * 11 + (0 : Int).toNat) (by omega) (by omega) (by omega)) rfl rfl (Nat.le_of_ble_eq_true rfl) (by omega) (gC_L (by omega)) (q := vwCl[3]) rfl rfl dX3_setSlope_83 (fun S5 R5 => ?_)
    exact E S5 ⟨_, f, x, y, R5, hl1, ex, (by rw [hB0]; exact ey), hcp, (by rw [va_up_ne _ _ (by omega), va_up_self]; exact hx.1 0 (by omega)), (by rw [va_up_self, va_up_ne _ _ (by omega)]; exact hy.1 0 (by omega)), fun j j1 => by rw [va_up_ne _ _ (by omega), va_up_ne _ _ (by omega), f3 j (by omega), fP2 j (by omega), fP1 j (by omega)]⟩ rfl dX3_setSlope_86
  · refine z_aload_n X 0 rfl rfl dX3_setSlope_16 ?_
    refine z_get X zinX3 0 (by omega) gC_T (ci := 5) rfl 5 (by decide) (ref := "TowerFields") zw125 rfl rfl dX3_setSlope_17 ?_
    refine z_goto X (tgt := 27) dX3_setSlope_20 (by decide) ?_
    have hB0 : (if kp = 1 then a else b) = a := if_pos (by omega)
    rw [hB0] at hBn
    have mB := zb_mul HU HA (m := 6) (n := 6) ha hb
    refine z_aload_n X 0 rfl rfl dX3_setSlope_27 ?_
    refine z_get X zinX3 0 (by omega) gC_T (ci := 5) rfl 6 (by decide) (ref := "TowerFields") zw126 rfl rfl dX3_setSlope_28 ?_
    refine z_iconst X (n := 1) dX3_setSlope_31 ?_
    refine z_eqi (b := vz (1 : FP)) rfl ?_
    refine z_callVv X zm_X2_plusProduct zw410 zw411 zw409 (zFit_of (by decide) (by decide)) [.ref (ad (0 + 3)), .ref (ad (1 + 3)), .int (iZ (vz (1 : FP)))] (c_X2_plusProduct HU HA l R1 (q := 7) (qa := 0) (qb := 1) (by omega) (by omega) (by omega) (by omega) (by omega) vP1 (kP1 0 a (by omega) hva) (kP1 1 b (by omega) hvb) (1) (by have := ha.1; have := hb.1; omega) (by have := ha.2; have := hb.2; omega)) rfl rfl (Nat.le_of_ble_eq_true rfl) (by omega) (gC_P (by omega)) (q := vwCl[4]) rfl rfl dX3_setSlope_32 (fun S2 R2 => ?_)
    rw [zpp1 HU HA] at R2
    obtain ⟨P2, eP2, vP2, kP2, fP2⟩ := zP_new ca P1 7 (a * b) mB.1
    rw [← eP2] at R2
    refine z_aload_n X 0 rfl rfl dX3_setSlope_35 ?_
    refine z_get X zinX3 0 (by omega) gC_T (ci := 5) rfl 14 (by decide) (ref := "TowerFields") zw134 rfl rfl dX3_setSlope_36 ?_
    refine z_aload_n X 0 rfl rfl dX3_setSlope_39 ?_
    refine z_get X zinX3 0 (by omega) gC_T (ci := 5) rfl 11 (by decide) (ref := "TowerFields") zw131 rfl rfl dX3_setSlope_40 ?_
    refine z_aload_n X 0 rfl rfl dX3_setSlope_43 ?_
    refine z_get X zinX3 0 (by omega) gC_T (ci := 5) rfl 12 (by decide) (ref := "TowerFields") zw132 rfl rfl dX3_setSlope_44 ?_
    refine z_callVv X zm_X0_find zw428 zw429 zw427 (zFit_of (by decide) (by decide)) [.ref (ad (6 + 3)), .ref (ad (7 + 3))] (c_X0_find HU HA l R2 (q1 := 6) (q2 := 7) (by omega) (by omega) (kP2 6 d (by omega) (kP1 6 d (by omega) hvd)) vP2 (by omega) (by have := mB.2; omega)) rfl rfl (Nat.le_of_ble_eq_true rfl) (by omega) gC_D (q := vwCl[2]) rfl rfl dX3_setSlope_47 (fun S3 hu3 => ?_)
    obtain ⟨P3, R3, f3, f, hf, ho⟩ := hu3
    obtain ⟨hl1, x, y, hx, hy, ex, ey, hcp⟩ := ho.resolve_left (fun q => hBn q.2.1)
    refine z_aload_n X 0 rfl rfl dX3_setSlope_50 ?_
    refine z_get X zinX3 0 (by omega) gC_T (ci := 5) rfl 3 (by decide) (ref := "TowerFields") zw123 rfl rfl dX3_setSlope_51 ?_
    refine z_aload_n X 0 rfl rfl dX3_setSlope_54 ?_
    refine z_get X zinX3 0 (by omega) gC_T (ci := 5) rfl 14 (by decide) (ref := "TowerFields") zw134 rfl rfl dX3_setSlope_55 ?_
    refine z_get X zinX0 2 (by omega) gC_D (ci := 2) rfl 1 (by decide) (ref := "TowerFields$Divisor") zw66 rfl rfl dX3_setSlope_58 ?_
    refine z_iconst X (n := 0) dX3_setSlope_61 ?_
    refine z_callVr X zm_X2_row zw113 zw114 zw112 (zFit_of (by decide) (by decide)) [.int (iZ (0))] (c_X2_row l S3 (q := 10) (by omega) (i := (0 : Int)) (by omega)) rfl rfl (Nat.le_of_ble_eq_true rfl) (by omega) (gC_P (by omega)) (q := vwCl[4]) rfl rfl dX3_setSlope_62 (fun j _ hz => ?_)
    have hj := zr_row hz (by omega) (by omega)
    subst hj
    refine z_callVv X zm_X1_copyOf zw437 zw438 zw534 (zFit_of (by decide) (by decide)) [.ref (ad (13 * 10 + ((0 : Int)).toNat + 31))] (c_X1_copyOf HU l R3 (k := 182) (k2 := 13 * 10 + (0 : Int).toNat) (by omega) (by omega) (by omega)) rfl rfl (Nat.le_of_ble_eq_true rfl) (by omega) (gC_L (by omega)) (q := vwCl[3]) rfl rfl dX3_setSlope_65 (fun S4 R4 => ?_)
    refine z_aload_n X 0 rfl rfl dX3_setSlope_68 ?_
    refine z_get X zinX3 0 (by omega) gC_T (ci := 5) rfl 4 (by decide) (ref := "TowerFields") zw124 rfl rfl dX3_setSlope_69 ?_
    refine z_aload_n X 0 rfl rfl dX3_setSlope_72 ?_
    refine z_get X zinX3 0 (by omega) gC_T (ci := 5) rfl 14 (by decide) (ref := "TowerFields") zw134 rfl rfl dX3_setSlope_73 ?_
    refine z_get X zinX0 2 (by omega) gC_D (ci := 2) rfl 2 (by decide) (ref := "TowerFields$Divisor") zw68 rfl rfl dX3_setSlope_76 ?_
    refine z_iconst X (n := 0) dX3_setSlope_79 ?_
    refine z_callVr X zm_X2_row zw113 zw114 zw112 (zFit_of (by decide) (by decide)) [.int (iZ (0))] (c_X2_row l S4 (q := 11) (by omega) (i := (0 : Int)) (by omega)) rfl rfl (Nat.le_of_ble_eq_true rfl) (by omega) (gC_P (by omega)) (q := vwCl[4]) rfl rfl dX3_setSlope_80 (fun j _ hz => ?_)
    have hj := zr_row hz (by omega) (by omega)
    subst hj
    refine z_callVv X zm_X1_copyOf zw437 zw438 zw534 (zFit_of (by decide) (by decide)) [.ref (ad (13 * 11 + ((0 : Int)).toNat + 31))] (c_X1_copyOf HU l R4 (k := 183) (k2 := 13 * 11 + (0 : Int).toNat) (by omega) (by omega) (by omega)) rfl rfl (Nat.le_of_ble_eq_true rfl) (by omega) (gC_L (by omega)) (q := vwCl[3]) rfl rfl dX3_setSlope_83 (fun S5 R5 => ?_)
    exact E S5 ⟨_, f, x, y, R5, hl1, ex, (by rw [hB0]; exact ey), hcp, (by rw [va_up_ne _ _ (by omega), va_up_self]; exact hx.1 0 (by omega)), (by rw [va_up_self, va_up_ne _ _ (by omega)]; exact hy.1 0 (by omega)), fun j j1 => by rw [va_up_ne _ _ (by omega), va_up_ne _ _ (by omega), f3 j (by omega), fP2 j (by omega), fP1 j (by omega)]⟩ rfl dX3_setSlope_86
