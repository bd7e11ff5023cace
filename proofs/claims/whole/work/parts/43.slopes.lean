section
variable {U V : Type}
theorem zP_new [Lean.Grind.CommRing U] [Lean.Grind.CommRing V] (ca : V → Nat → U) (P : Nat → U) (q : Nat) (a : V) (h : mp_sz ca a ≤ 13) : ∃ P2, P2 = pA ca P q a ∧ zV ca P2 q a ∧ (∀ q2 b, q2 ≠ q → zV ca P q2 b → zV ca P2 q2 b) ∧ (∀ j, (j < 13 * q ∨ 13 * q + 13 ≤ j) → P2 j = P j) := ⟨_, rfl, zV_pA h, fun _ _ hn hv => zV_pAn hn hv, fun _ hj => pA_out ca P q a hj⟩
theorem pwn_zA [Lean.Grind.CommRing U] [Lean.Grind.CommRing V] {ca : V → Nat → U} (HA : mp_P ca) (P : Nat → U) (q : Nat) : pwn P q (fun _ => (0 : U)) 13 = pA ca P q (0 : V) := by
  show _ = pwn P q (ca 0) 13
  congr 1
  funext i
  rw [mp_zero HA]
theorem zs0 [Lean.Grind.CommRing U] [Lean.Grind.CommRing V] {ca : V → Nat → U} (HA : mp_P ca) : mp_sz ca (0 : V) ≤ 13 := by rw [(mp_sz_0 HA).mpr rfl]; omega
theorem zC1 [Lean.Grind.CommRing U] [Lean.Grind.CommRing V] {cu : U → Nat → FP} {ca : V → Nat → U} (HU : mp_P cu) (HA : mp_P ca) : mp_C ca (mp_C cu 1) = 1 := by rw [mp_C_1 HU, mp_C_1 HA]
theorem zpp1 [Lean.Grind.CommRing U] [Lean.Grind.CommRing V] {cu : U → Nat → FP} {ca : V → Nat → U} (HU : mp_P cu) (HA : mp_P ca) (a b : V) : (0 : V) + mp_C ca (mp_C cu 1) * a * b = a * b := by rw [zC1 HU HA]; grind
theorem zsm [Lean.Grind.CommRing U] [Lean.Grind.CommRing V] {ca : V → Nat → U} (HA : mp_P ca) {a b : V} (ha : mp_sz ca a ≤ 7) (hb : mp_sz ca b ≤ 7) : mp_sz ca (a * b) ≤ 13 := mp_sz_mul_le HA (m := 6) (n := 6) ha hb
/-- a polynomial whose powers of t go to 6, and those of x to n - 1 -/
def zb [Lean.Grind.CommRing U] [Lean.Grind.CommRing V] (cu : U → Nat → FP) (ca : V → Nat → U) (n : Nat) (a : V) : Prop := mp_sz ca a ≤ 7 ∧ mp_xz cu ca a ≤ n
/-- what t's derivation multiplies -/
noncomputable def zW [Lean.Grind.CommRing U] [Lean.Grind.CommRing V] (ca : V → Nat → U) (kd : Int) (sA : U) : V := @ite V (kd = 1) (Classical.propDecidable _) (mp_C ca sA) (mp_C ca sA * ms_t ca)
theorem zW_cf [Lean.Grind.CommRing U] [Lean.Grind.CommRing V] {cu : U → Nat → FP} {ca : V → Nat → U} (HU : mp_P cu) (HA : mp_P ca) (kd : Int) (sA sB : U) (h : V) (low : Nat) (hl : (kd = 1 ∧ low = 1) ∨ (kd ≠ 1 ∧ low = 0)) (n : Nat) : ca (md_E cu ca sB (zW ca kd sA) h) n = md_d cu (ca h n) * sB + mp_C cu (mf_n (n + low)) * ca h (n + low) * sA := by
  rcases hl with ⟨h1, rfl⟩ | ⟨h1, rfl⟩
  · rw [zW, if_pos h1, ms_E_log HU HA, mr_nR_C HU, mr_nR_FP]; grind
  · rw [zW, if_neg h1, ms_E_exp HU HA, mr_nR_C HU, mr_nR_FP]; grind
theorem zE_b [Lean.Grind.CommRing U] [Lean.Grind.CommRing V] {cu : U → Nat → FP} {ca : V → Nat → U} (HU : mp_P cu) (HA : mp_P ca) (kd : Int) {sA sB : U} {h : V} (hA : mp_sz cu sA ≤ 13) (hB : mp_sz cu sB ≤ 13) (hh : zb cu ca 7 h) : zb cu ca 19 (md_E cu ca sB (zW ca kd sA) h) := by
  obtain ⟨low, hl⟩ : ∃ low : Nat, (kd = 1 ∧ low = 1) ∨ (kd ≠ 1 ∧ low = 0) := by
    by_cases e : kd = 1
    · exact ⟨1, Or.inl ⟨e, rfl⟩⟩
    · exact ⟨0, Or.inr ⟨e, rfl⟩⟩
  have e := zW_cf HU HA kd sA sB h low hl
  refine ⟨mp_sz_le HA (fun n hn => ?_), mp_xz_le HU HA (fun n => ?_)⟩
  · rw [e, mp_sz_out HA (a := h) (by have := hh.1; omega), mp_sz_out HA (a := h) (by have := hh.1; omega), md_0 HU]; grind
  · rw [e]
    have h1 := Nat.le_trans (mp_xz_row HU HA h n) hh.2
    have h2 := Nat.le_trans (mp_xz_row HU HA h (n + low)) hh.2
    refine mp_sz_add HU (Nat.le_trans (mp_sz_mul_le HU (m := 5) (n := 12) (md_sz HU h1) hB) (by omega)) ?_
    refine mp_sz_mul_le HU (m := 6) (n := 12) ?_ hA
    exact Nat.le_trans (mp_sz_mul_le HU (m := 0) (n := 6) (mp_sz_le HU (fun j hj => by rw [mp_C_cf HU, if_neg (by omega)])) h2) (by omega)
theorem zb_mul [Lean.Grind.CommRing U] [Lean.Grind.CommRing V] {cu : U → Nat → FP} {ca : V → Nat → U} (HU : mp_P cu) (HA : mp_P ca) {m n : Nat} {a b : V} (ha : zb cu ca (m + 1) a) (hb : zb cu ca (n + 1) b) : mp_sz ca (a * b) ≤ 13 ∧ mp_xz cu ca (a * b) ≤ m + n + 1 := ⟨zsm HA ha.1 hb.1, mp_sz_mul_le (mp_sw_P HU HA) ha.2 hb.2⟩
theorem zb_add [Lean.Grind.CommRing U] [Lean.Grind.CommRing V] {cu : U → Nat → FP} {ca : V → Nat → U} (HU : mp_P cu) (HA : mp_P ca) {k n : Nat} {a b : V} (ha : mp_sz ca a ≤ k ∧ mp_xz cu ca a ≤ n) (hb : mp_sz ca b ≤ k ∧ mp_xz cu ca b ≤ n) : mp_sz ca (a + b) ≤ k ∧ mp_xz cu ca (a + b) ≤ n := ⟨mp_sz_add HA ha.1 hb.1, mp_sz_add (mp_sw_P HU HA) ha.2 hb.2⟩
theorem zb_neg [Lean.Grind.CommRing U] [Lean.Grind.CommRing V] {cu : U → Nat → FP} {ca : V → Nat → U} (HU : mp_P cu) (HA : mp_P ca) {k n : Nat} {a : V} (ha : mp_sz ca a ≤ k ∧ mp_xz cu ca a ≤ n) : mp_sz ca (-a) ≤ k ∧ mp_xz cu ca (-a) ≤ n := ⟨mp_sz_neg HA ha.1, mp_sz_neg (mp_sw_P HU HA) ha.2⟩
theorem zb_CC [Lean.Grind.CommRing U] [Lean.Grind.CommRing V] {cu : U → Nat → FP} {ca : V → Nat → U} (HU : mp_P cu) (HA : mp_P ca) {k n : Nat} {a : V} (ha : mp_sz ca a ≤ k ∧ mp_xz cu ca a ≤ n) (s : FP) : mp_sz ca (mp_C ca (mp_C cu s) * a) ≤ k ∧ mp_xz cu ca (mp_C ca (mp_C cu s) * a) ≤ n := ⟨mp_sz_le HA (fun j hj => by rw [mp_C_mul HA, mp_sz_out HA (by omega)]; grind), mp_xz_le HU HA (fun j => mp_sz_le HU (fun i hi => by rw [mp_CC_mul HU HA, mp_sz_out HU (Nat.le_trans (mp_xz_row HU HA a j) (by omega))]; grind))⟩
end
set_option maxHeartbeats 8000000 in
set_option maxRecDepth 100000 in
theorem c_X3_sumUp {U V : Type} [Lean.Grind.CommRing U] [Lean.Grind.CommRing V] {cu : U → Nat → FP} {ca : V → Nat → U} (HU : mp_P cu) (HA : mp_P ca) (l : Launch) {D : va_G} {ad : Nat → Nat} {cI cO : ClassId} {P : Nat → U} {T : zRest} {S : zS} (hR : zR cu P T S) {a b c2 d : V} (hva : zV ca P 0 a) (hvb : zV ca P 1 b) (hvc : zV ca P 2 c2) (hvd : zV ca P 3 d) (ha : zb cu ca 7 a) (hb : zb cu ca 7 b) (hc : zb cu ca 7 c2) (hd : zb cu ca 7 d) (s : FP) : zMv l yX3_sumUp cX3_sumUp 2 3 D (zTy cI cO) 419 ad [.ref (ad 0), .int (iZ (vz s))] (gC ad cI cO S) (gC ad cI cO) (fun u => ∃ P9, zR cu P9 T u ∧ zV ca P9 6 (a * d + mp_C ca (mp_C cu s) * c2 * b) ∧ zV ca P9 7 (b * d) ∧ ∀ j, (j < 78 ∨ 104 ≤ j) → P9 j = P j) := by
  refine z_gov zm_X3_sumUp (Nat.le_of_ble_eq_true rfl) [(0, .ref (ad 0)), (1, .int (iZ (vz s)))] rfl (fun p e s0 m args below meth c A Q X E => ?_)
  have ma := zb_mul HU HA (m := 6) (n := 6) ha hd
  have mc := zb_CC HU HA (zb_mul HU HA (m := 6) (n := 6) hc hb) s
  have mb := zb_mul HU HA (m := 6) (n := 6) hb hd
  rw [show mp_C ca (mp_C cu s) * (c2 * b) = mp_C ca (mp_C cu s) * c2 * b by grind] at mc
  have ms := zb_add HU HA ma mc
  obtain ⟨ha7, hax⟩ := ha
  obtain ⟨hb7, hbx⟩ := hb
  obtain ⟨hc7, hcx⟩ := hc
  obtain ⟨hd7, hdx⟩ := hd
  refine z_aload_n X 0 rfl rfl dX3_sumUp_0 ?_
  refine z_get X zinX3 0 (by omega) gC_T (ci := 5) rfl 11 (by decide) (ref := "TowerFields") zw131 rfl rfl dX3_sumUp_1 ?_
  refine z_callVv X zm_X2_clear zw286 zw287 zw285 (zFit_of (by decide) (by decide)) [] (c_X2_clear HU l hR (q := 6) (by omega)) rfl rfl (Nat.le_of_ble_eq_true rfl) (by omega) (gC_P (by omega)) (q := vwCl[4]) rfl rfl dX3_sumUp_4 (fun S1 R1 => ?_)
  rw [pwn_zA HA] at R1
  obtain ⟨P1, eP1, vP1, kP1, fP1⟩ := zP_new ca P 6 ((0 : V)) (zs0 HA)
  rw [← eP1] at R1
  refine z_aload_n X 0 rfl rfl dX3_sumUp_7 ?_
  refine z_get X zinX3 0 (by omega) gC_T (ci := 5) rfl 11 (by decide) (ref := "TowerFields") zw131 rfl rfl dX3_sumUp_8 ?_
  refine z_aload_n X 0 rfl rfl dX3_sumUp_11 ?_
  refine z_get X zinX3 0 (by omega) gC_T (ci := 5) rfl 5 (by decide) (ref := "TowerFields") zw125 rfl rfl dX3_sumUp_12 ?_
  refine z_aload_n X 0 rfl rfl dX3_sumUp_15 ?_
  refine z_get X zinX3 0 (by omega) gC_T (ci := 5) rfl 8 (by decide) (ref := "TowerFields") zw128 rfl rfl dX3_sumUp_16 ?_
  refine z_iconst X (n := 1) dX3_sumUp_19 ?_
  refine z_eqi (b := vz (1 : FP)) rfl ?_
  refine z_callVv X zm_X2_plusProduct zw410 zw411 zw409 (zFit_of (by decide) (by decide)) [.ref (ad (0 + 3)), .ref (ad (3 + 3)), .int (iZ (vz (1 : FP)))] (c_X2_plusProduct HU HA l R1 (q := 6) (qa := 0) (qb := 3) (by omega) (by omega) (by omega) (by omega) (by omega) vP1 (kP1 0 a (by omega) hva) (kP1 3 d (by omega) hvd) (1) (by omega) (by omega)) rfl rfl (Nat.le_of_ble_eq_true rfl) (by omega) (gC_P (by omega)) (q := vwCl[4]) rfl rfl dX3_sumUp_20 (fun S2 R2 => ?_)
  rw [zpp1 HU HA] at R2
  obtain ⟨P2, eP2, vP2, kP2, fP2⟩ := zP_new ca P1 6 (a * d) ma.1
  rw [← eP2] at R2
  refine z_aload_n X 0 rfl rfl dX3_sumUp_23 ?_
  refine z_get X zinX3 0 (by omega) gC_T (ci := 5) rfl 11 (by decide) (ref := "TowerFields") zw131 rfl rfl dX3_sumUp_24 ?_
  refine z_aload_n X 0 rfl rfl dX3_sumUp_27 ?_
  refine z_get X zinX3 0 (by omega) gC_T (ci := 5) rfl 7 (by decide) (ref := "TowerFields") zw127 rfl rfl dX3_sumUp_28 ?_
  refine z_aload_n X 0 rfl rfl dX3_sumUp_31 ?_
  refine z_get X zinX3 0 (by omega) gC_T (ci := 5) rfl 6 (by decide) (ref := "TowerFields") zw126 rfl rfl dX3_sumUp_32 ?_
  refine z_iload_n X 1 rfl rfl dX3_sumUp_35 ?_
  refine z_callVv X zm_X2_plusProduct zw410 zw411 zw409 (zFit_of (by decide) (by decide)) [.ref (ad (2 + 3)), .ref (ad (1 + 3)), .int (iZ (vz s))] (c_X2_plusProduct HU HA l R2 (q := 6) (qa := 2) (qb := 1) (by omega) (by omega) (by omega) (by omega) (by omega) vP2 (kP2 2 c2 (by omega) (kP1 2 c2 (by omega) hvc)) (kP2 1 b (by omega) (kP1 1 b (by omega) hvb)) (s) (by omega) (by omega)) rfl rfl (Nat.le_of_ble_eq_true rfl) (by omega) (gC_P (by omega)) (q := vwCl[4]) rfl rfl dX3_sumUp_36 (fun S3 R3 => ?_)
  obtain ⟨P3, eP3, vP3, kP3, fP3⟩ := zP_new ca P2 6 (a * d + mp_C ca (mp_C cu s) * c2 * b) ms.1
  rw [← eP3] at R3
  refine z_aload_n X 0 rfl rfl dX3_sumUp_39 ?_
  refine z_get X zinX3 0 (by omega) gC_T (ci := 5) rfl 12 (by decide) (ref := "TowerFields") zw132 rfl rfl dX3_sumUp_40 ?_
  refine z_callVv X zm_X2_clear zw286 zw287 zw285 (zFit_of (by decide) (by decide)) [] (c_X2_clear HU l R3 (q := 7) (by omega)) rfl rfl (Nat.le_of_ble_eq_true rfl) (by omega) (gC_P (by omega)) (q := vwCl[4]) rfl rfl dX3_sumUp_43 (fun S4 R4 => ?_)
  rw [pwn_zA HA] at R4
  obtain ⟨P4, eP4, vP4, kP4, fP4⟩ := zP_new ca P3 7 ((0 : V)) (zs0 HA)
  rw [← eP4] at R4
  refine z_aload_n X 0 rfl rfl dX3_sumUp_46 ?_
  refine z_get X zinX3 0 (by omega) gC_T (ci := 5) rfl 12 (by decide) (ref := "TowerFields") zw132 rfl rfl dX3_sumUp_47 ?_
  refine z_aload_n X 0 rfl rfl dX3_sumUp_50 ?_
  refine z_get X zinX3 0 (by omega) gC_T (ci := 5) rfl 6 (by decide) (ref := "TowerFields") zw126 rfl rfl dX3_sumUp_51 ?_
  refine z_aload_n X 0 rfl rfl dX3_sumUp_54 ?_
  refine z_get X zinX3 0 (by omega) gC_T (ci := 5) rfl 8 (by decide) (ref := "TowerFields") zw128 rfl rfl dX3_sumUp_55 ?_
  refine z_iconst X (n := 1) dX3_sumUp_58 ?_
  refine z_eqi (b := vz (1 : FP)) rfl ?_
  refine z_callVv X zm_X2_plusProduct zw410 zw411 zw409 (zFit_of (by decide) (by decide)) [.ref (ad (1 + 3)), .ref (ad (3 + 3)), .int (iZ (vz (1 : FP)))] (c_X2_plusProduct HU HA l R4 (q := 7) (qa := 1) (qb := 3) (by omega) (by omega) (by omega) (by omega) (by omega) vP4 (kP4 1 b (by omega) (kP3 1 b (by omega) (kP2 1 b (by omega) (kP1 1 b (by omega) hvb)))) (kP4 3 d (by omega) (kP3 3 d (by omega) (kP2 3 d (by omega) (kP1 3 d (by omega) hvd)))) (1) (by omega) (by omega)) rfl rfl (Nat.le_of_ble_eq_true rfl) (by omega) (gC_P (by omega)) (q := vwCl[4]) rfl rfl dX3_sumUp_59 (fun S5 R5 => ?_)
  rw [zpp1 HU HA] at R5
  obtain ⟨P5, eP5, vP5, kP5, fP5⟩ := zP_new ca P4 7 (b * d) mb.1
  rw [← eP5] at R5
  exact E S5 ⟨P5, R5, kP5 6 _ (by omega) (kP4 6 _ (by omega) vP3), vP5, fun j hj => by rw [fP5 j (by omega), fP4 j (by omega), fP3 j (by omega), fP2 j (by omega), fP1 j (by omega)]⟩ rfl dX3_sumUp_62
set_option maxHeartbeats 8000000 in
set_option maxRecDepth 100000 in
theorem c_X3_slopeOfPoly {U V : Type} [Lean.Grind.CommRing U] [Lean.Grind.CommRing V] {cu : U → Nat → FP} {ca : V → Nat → U} (HU : mp_P cu) (HA : mp_P ca) (l : Launch) {D : va_G} {ad : Nat → Nat} {cI cO : ClassId} {P : Nat → U} {T : zRest} {S : zS} (hR : zR cu P T S) {q q9 : Nat} (hq : q < 14) (hq9 : q9 < 14) (hne : q ≠ q9) {a : V} (hva : zV ca P q a) (ha : zb cu ca 7 a) (hA : mp_sz cu (P 182) ≤ 13) (hB : mp_sz cu (P 183) ≤ 13) (hk : -2147483648 ≤ T.2.2 ∧ T.2.2 < 2147483648) : zMv l yX3_slopeOfPoly cX3_slopeOfPoly 6 2 D (zTy cI cO) 419 ad [.ref (ad 0), .ref (ad (q + 3)), .ref (ad (q9 + 3))] (gC ad cI cO S) (gC ad cI cO) (fun u => zR cu (pA ca P q9 (md_E cu ca (P 183) (zW ca T.2.2 (P 182)) a)) T u) := by
  have hrow : ∀ i, mp_sz cu (ca a i) ≤ 7 := fun i => Nat.le_trans (mp_xz_row HU HA a i) ha.2
  refine z_gov zm_X3_slopeOfPoly (Nat.le_of_ble_eq_true rfl) [(0, .ref (ad 0)), (1, .ref (ad (q + 3))), (2, .ref (ad (q9 + 3)))] rfl (fun p e s m args below meth c A Q X E => ?_)
  have tail : ∀ (low : Nat) (S1 : zS) (lv : List (Nat × Value)) (ks : List Nat), zR cu (pA ca P q9 (0 : V)) T S1 → ((T.2.2 = 1 ∧ low = 1) ∨ (T.2.2 ≠ 1 ∧ low = 0)) → lv_pick lv ks = [(3, .int (iZ ((low : Int)))), (0, .ref (ad 0)), (1, .ref (ad (q + 3))), (2, .ref (ad (q9 + 3)))] → Z p l e (zRm 2) s m args below meth c 6 D 419 ad A 0 0 Q 18 lv [] (gC ad cI cO S1) := by
    intro low S1 lv ks R1 hlow hlv
    refine z_sub ks hlv ?_
    have hE := zE_b HU HA T.2.2 hA hB ha
    have hcf := zW_cf HU HA T.2.2 (P 182) (P 183) a low hlow
    have loop : ∀ (n : Nat) (i : Int) (P1 : Nat → U) (S1 : zS) (lv : List (Nat × Value)) (ks : List Nat), i + n = 7 → 0 ≤ i → zR cu P1 T S1 → (∀ j, (j < 13 * q9 ∨ 13 * q9 + 13 ≤ j) → P1 j = P j) → (∀ r, r < 13 → P1 (13 * q9 + r) = (@ite U ((r : Int) < i) (Classical.propDecidable _) (md_d cu (ca a r) * P 183) 0) + (@ite U ((r : Int) + low < i) (Classical.propDecidable _) (mp_C cu (mf_n (r + low)) * ca a (r + low) * P 182) 0)) → lv_pick lv ks = [(4, .int (iZ (i))), (3, .int (iZ ((low : Int)))), (0, .ref (ad 0)), (1, .ref (ad (q + 3))), (2, .ref (ad (q9 + 3)))] → Z p l e (zRm 2) s m args below meth c 6 D 419 ad A 0 0 Q 21 lv [] (gC ad cI cO S1) := by
      intro n
      induction n with
      | zero =>
        intro i P1 S1 lv ks h1 h2 h3 h4 h5 hlv
        refine z_sub ks hlv ?_
        refine z_iload X 0 rfl dX3_slopeOfPoly_21 ?_
        refine z_bipush X (n := 7) (by decide) dX3_slopeOfPoly_23 ?_
        refine z_icmp_ge X (tgt := 76) (by omega) (by omega) dX3_slopeOfPoly_25 (by decide) (fun hb25 => ?_) (fun hb25 => absurd hb25 (by omega))
        refine E S1 (zR_cong h3 (fun j hj => ?_)) rfl dX3_slopeOfPoly_76
        by_cases hjq : j < 13 * q9 ∨ 13 * q9 + 13 ≤ j
        · rw [pA_out ca P q9 _ hjq, h4 j hjq]
        · obtain ⟨r, hr, rfl⟩ : ∃ r, r < 13 ∧ j = 13 * q9 + r := ⟨j - 13 * q9, by omega, by omega⟩
          rw [pA_in ca P q9 _ hr, hcf, h5 r hr]
          congr 1
          · split
            · rfl
            · rw [mp_sz_out HA (a := a) (n := r) (by have := ha.1; omega), md_0 HU]; grind
          · split
            · rfl
            · rw [mp_sz_out HA (a := a) (n := r + low) (by have := ha.1; omega)]; grind
      | succ n ih =>
        intro i P1 S1 lv ks h1 h2 h3 h4 h5 hlv
        refine z_sub ks hlv ?_
        have kq : P1 (13 * q + (i).toNat) = ca a i.toNat := by rw [h4 _ (by omega)]; exact hva.1 _ (by omega)
        have k2 : P1 182 = P 182 := h4 _ (by omega)
        have k3 : P1 183 = P 183 := h4 _ (by omega)
        have hri := hrow i.toNat
        refine z_iload X 0 rfl dX3_slopeOfPoly_21 ?_
        refine z_bipush X (n := 7) (by decide) dX3_slopeOfPoly_23 ?_
        refine z_icmp_ge X (tgt := 76) (by omega) (by omega) dX3_slopeOfPoly_25 (by decide) (fun hb25 => absurd hb25 (by omega)) (fun hb25 => ?_)
        refine z_aload_n X 3 rfl rfl dX3_slopeOfPoly_28 ?_
        refine z_iload X 0 rfl dX3_slopeOfPoly_29 ?_
        refine z_callVr X zm_X2_row zw113 zw114 zw112 (zFit_of (by decide) (by decide)) [.int (iZ (i))] (c_X2_row l S1 (q := q) (by omega) (i := i) (by omega)) rfl rfl (Nat.le_of_ble_eq_true rfl) (by omega) (gC_P (by omega)) (q := vwCl[4]) rfl rfl dX3_slopeOfPoly_31 (fun j _ hz => ?_)
        have hj := zr_row hz (by omega) (by omega)
        subst hj
        refine z_astore X [(5, .ref (ad (13 * q + (i).toNat + 31))), (4, .int (iZ (i))), (3, .int (iZ ((low : Int)))), (0, .ref (ad 0)), (1, .ref (ad (q + 3))), (2, .ref (ad (q9 + 3)))] rfl (by decide) dX3_slopeOfPoly_34 ?_
        refine z_aload_n X 5 rfl rfl dX3_slopeOfPoly_36 ?_
        refine z_iload X 1 rfl dX3_slopeOfPoly_37 ?_
        refine z_callVr X zm_X2_row zw113 zw114 zw112 (zFit_of (by decide) (by decide)) [.int (iZ (i))] (c_X2_row l S1 (q := q9) (by omega) (i := i) (by omega)) rfl rfl (Nat.le_of_ble_eq_true rfl) (by omega) (gC_P (by omega)) (q := vwCl[4]) rfl rfl dX3_slopeOfPoly_39 (fun j _ hz => ?_)
        have hj := zr_row hz (by omega) (by omega)
        subst hj
        refine z_aload X 0 rfl dX3_slopeOfPoly_42 ?_
        refine z_aload_n X 3 rfl rfl dX3_slopeOfPoly_44 ?_
        refine z_get X zinX3 0 (by omega) gC_T (ci := 5) rfl 4 (by decide) (ref := "TowerFields") zw124 rfl rfl dX3_slopeOfPoly_45 ?_
        refine z_callVv X zm_X1_plusSlopeProduct zw397 zw398 zw396 (zFit_of (by decide) (by decide)) [.ref (ad (13 * q + (i).toNat + 31)), .ref (ad (183 + 31))] (c_X1_plusSlopeProduct HU l h3 (k := 13 * q9 + (i).toNat) (a := 13 * q + (i).toNat) (b := 183) (by omega) (by omega) (by omega) (by omega) (by omega) (Or.inr (Or.inr (by rw [kq, k3]; omega)))) rfl rfl (Nat.le_of_ble_eq_true rfl) (by omega) (gC_L (by omega)) (q := vwCl[3]) rfl rfl dX3_slopeOfPoly_48 (fun S2 R2 => ?_)
        rw [kq, k3] at R2
        obtain ⟨P2, hP2⟩ : ∃ P2, P2 = va_up P1 (13 * q9 + i.toNat) (P1 (13 * q9 + i.toNat) + md_d cu (ca a i.toNat) * P 183) := ⟨_, rfl⟩
        rw [← hP2] at R2
        have f2 : ∀ j, j ≠ 13 * q9 + i.toNat → P2 j = P1 j := fun j hj => by rw [hP2, va_up_ne _ _ hj]
        refine z_aload_n X 5 rfl rfl dX3_slopeOfPoly_51 ?_
        refine z_iload X 1 rfl dX3_slopeOfPoly_52 ?_
        refine z_iload_n X 2 rfl rfl dX3_slopeOfPoly_54 ?_
        refine z_isub X dX3_slopeOfPoly_55 ?_
        refine z_callVr X zm_X2_row zw113 zw114 zw112 (zFit_of (by decide) (by decide)) [.int (iZ (i - ((low : Int))))] (c_X2_row l S2 (q := q9) (by omega) (i := i - (low : Int)) (by omega)) rfl rfl (Nat.le_of_ble_eq_true rfl) (by omega) (gC_P (by omega)) (q := vwCl[4]) rfl rfl dX3_slopeOfPoly_56 (fun j _ hz => ?_)
        obtain ⟨x, hx⟩ : ∃ x : Nat, x = if i - (low : Int) < 0 then 0 else if i - (low : Int) < 13 then (i - (low : Int)).toNat else 12 := ⟨_, rfl⟩
        rw [← hx] at hz
        have hj : j = 13 * q9 + x + 31 := hz
        subst hj
        have hx2 : (i - (low : Int) < 0 ∧ x = 0) ∨ (0 ≤ i - (low : Int) ∧ (x : Int) = i - low) := by
          by_cases e1 : i - (low : Int) < 0
          · rw [if_pos e1] at hx; exact Or.inl ⟨e1, hx⟩
          · rw [if_neg e1, if_pos (by omega)] at hx; exact Or.inr ⟨by omega, by omega⟩
        refine z_aload X 0 rfl dX3_slopeOfPoly_59 ?_
        refine z_aload_n X 3 rfl rfl dX3_slopeOfPoly_61 ?_
        refine z_get X zinX3 0 (by omega) gC_T (ci := 5) rfl 3 (by decide) (ref := "TowerFields") zw123 rfl rfl dX3_slopeOfPoly_62 ?_
        refine z_iload X 1 rfl dX3_slopeOfPoly_65 ?_
        refine z_eqi (b := vz (mf_n i.toNat)) (vz_ofn h2 (by omega)).symm ?_
        refine z_callVv X zm_X1_plusProduct zw406 zw407 zw405 (zFit_of (by decide) (by decide)) [.ref (ad (13 * q + (i).toNat + 31)), .ref (ad (182 + 31)), .int (iZ (vz (mf_n i.toNat)))] (c_X1_plusProduct HU l R2 (k := 13 * q9 + x) (a := 13 * q + (i).toNat) (b := 182) (by omega) (by omega) (by omega) (by omega) (by omega) (mf_n i.toNat) (by rw [f2 _ (by omega), f2 _ (by omega), kq, k2]; omega)) rfl rfl (Nat.le_of_ble_eq_true rfl) (by omega) (gC_L (by omega)) (q := vwCl[3]) rfl rfl dX3_slopeOfPoly_67 (fun S3 R3 => ?_)
        rw [f2 (13 * q + (i).toNat) (by omega), f2 182 (by omega), kq, k2] at R3
        refine z_iinc X [(4, .int (iZ (i + 1))), (5, .ref (ad (13 * q + (i).toNat + 31))), (3, .int (iZ ((low : Int)))), (0, .ref (ad 0)), (1, .ref (ad (q + 3))), (2, .ref (ad (q9 + 3)))] 1 rfl rfl (by decide) dX3_slopeOfPoly_70 ?_
        refine z_goto X (tgt := 21) dX3_slopeOfPoly_73 (by decide) ?_
        refine ih (i + 1) _ S3 _ [0, 2, 3, 4, 5] (by omega) (by omega) R3 (fun j hj => by rw [va_up_ne _ _ (by omega), f2 j (by omega)]; exact h4 j hj) (fun r hr => ?_) rfl
        clear ih
        have hP2r : P2 (13 * q9 + r) = (@ite U ((r : Int) < i + 1) (Classical.propDecidable _) (md_d cu (ca a r) * P 183) 0) + (@ite U ((r : Int) + low < i) (Classical.propDecidable _) (mp_C cu (mf_n (r + low)) * ca a (r + low) * P 182) 0) := by
          by_cases e1 : r = i.toNat
          · rw [hP2, e1, va_up_self, h5 _ (by omega), if_neg (by omega), if_pos (show ((i.toNat : Nat) : Int) < i + 1 by omega)]
            grind
          · rw [f2 _ (by omega), h5 r hr]
            by_cases e2 : (r : Int) < i
            · rw [if_pos e2, if_pos (show ((r : Nat) : Int) < i + 1 by omega)]
            · rw [if_neg e2, if_neg (show ¬ ((r : Nat) : Int) < i + 1 by omega)]
        by_cases e1 : r = x
        · rw [e1, va_up_self, ← e1, hP2r]
          rcases hx2 with ⟨q1, q2⟩ | ⟨q1, q2⟩
          · have e3 : mf_n i.toNat = 0 := by rw [show i.toNat = 0 by omega]; rfl
            rw [e3, mp_C_0 HU, if_neg (show ¬ (((r : Nat) : Int) + low < i) by omega), if_neg (show ¬ (((r : Nat) : Int) + low < i + 1) by omega)]
            grind
          · rw [if_neg (show ¬ (((r : Nat) : Int) + low < i) by omega), if_pos (show (((r : Nat) : Int) + low < i + 1) by omega), show r + low = i.toNat by omega]
            grind
        · rw [va_up_ne _ _ (by omega), hP2r]
          congr 1
          by_cases e2 : (r : Int) + low < i
          · rw [if_pos e2, if_pos (show (((r : Nat) : Int) + low < i + 1) by omega)]
          · rw [if_neg e2, if_neg (show ¬ (((r : Nat) : Int) + low < i + 1) by omega)]
    refine z_iconst X (n := 0) dX3_slopeOfPoly_18 ?_
    refine z_istore X [(4, .int (iZ (0))), (3, .int (iZ ((low : Int)))), (0, .ref (ad 0)), (1, .ref (ad (q + 3))), (2, .ref (ad (q9 + 3)))] rfl (by decide) dX3_slopeOfPoly_19 ?_
    exact loop 7 0 _ S1 _ [0, 1, 2, 3, 4] (by omega) (by omega) R1 (fun j hj => pA_out ca P q9 _ hj) (fun r hr => by rw [pA_in ca P q9 _ hr, mp_zero HA, if_neg (by omega), if_neg (by omega)]; grind) rfl
  refine z_aload_n X 2 rfl rfl dX3_slopeOfPoly_0 ?_
  refine z_callVv X zm_X2_clear zw286 zw287 zw285 (zFit_of (by decide) (by decide)) [] (c_X2_clear HU l hR (q := q9) (by omega)) rfl rfl (Nat.le_of_ble_eq_true rfl) (by omega) (gC_P (by omega)) (q := vwCl[4]) rfl rfl dX3_slopeOfPoly_1 (fun S1 R1 => ?_)
  rw [pwn_zA HA] at R1
  refine z_aload_n X 0 rfl rfl dX3_slopeOfPoly_4 ?_
  refine z_get X zinX3 0 (by omega) gC_T (ci := 5) rfl 2 (by decide) (ref := "TowerFields") zw122 rfl rfl dX3_slopeOfPoly_5 ?_
  refine z_eqi (b := T.2.2) (by rw [R1.2.2.2.2.2]) ?_
  refine z_iconst X (n := 1) dX3_slopeOfPoly_8 ?_
  refine z_icmp_ne X (tgt := 16) (by omega) (by omega) dX3_slopeOfPoly_9 (by decide) (fun hb9 => ?_) (fun hb9 => ?_)
  · refine z_iconst X (n := 0) dX3_slopeOfPoly_16 ?_
    refine z_istore_n X [(3, .int (iZ (0))), (0, .ref (ad 0)), (1, .ref (ad (q + 3))), (2, .ref (ad (q9 + 3)))] rfl rfl (by decide) dX3_slopeOfPoly_17 ?_
    exact tail 0 S1 _ [0, 1, 2, 3] R1 (by omega) rfl
  · refine z_iconst X (n := 1) dX3_slopeOfPoly_12 ?_
    refine z_goto X (tgt := 17) dX3_slopeOfPoly_13 (by decide) ?_
    refine z_istore_n X [(3, .int (iZ (1))), (0, .ref (ad 0)), (1, .ref (ad (q + 3))), (2, .ref (ad (q9 + 3)))] rfl rfl (by decide) dX3_slopeOfPoly_17 ?_
    exact tail 1 S1 _ [0, 1, 2, 3] R1 (by omega) rfl
