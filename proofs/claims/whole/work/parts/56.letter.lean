set_option maxHeartbeats 8000000 in
set_option maxRecDepth 100000 in
theorem c_X3_number {U V : Type} [Lean.Grind.CommRing U] [Lean.Grind.CommRing V] {cu : U → Nat → FP} {ca : V → Nat → U} (HU : mp_P cu) (HA : mp_P ca) (l : Launch) (hl9 : l.stackTraces = false) {D : va_G} {ad sa : Nat → Nat} {cI cO : ClassId} {EL : Int → V × V} {md kd : Int} {sA sB : U} {S : zS} (hC : zC cu ca EL md kd sA sB S) {a b : Int} (ha1 : -9223372036854775808 ≤ a) (ha2 : a < 9223372036854775808) (hb1 : -9223372036854775808 ≤ b) (hb2 : b < 9223372036854775808) : zTi l yX3_number cX3_number 6 (some .int) 8 2 D (zTy cI cO) 419 ad sa [.ref (ad 0), .long (lZ a), .long (lZ b)] (gC ad cI cO S) (gC ad cI cO) (fun z u => z = md ∧ md < 120 ∧ zC cu ca (zUp EL md (mp_m ca (mp_m cu (mI a * mf_inv (mI b)) 0) 0, 1)) (md + 1) kd sA sB u ∧ mI b ≠ 0) (fun E u => zC cu ca EL md kd sA sB u ∧ ((E = "java/lang/IllegalStateException" ∧ ¬ md < 120) ∨ (E = "java/lang/ArithmeticException" ∧ md < 120 ∧ mI b = 0))) := by
  obtain ⟨P, T, hR, hEL, hmd, hkd, h182, h183, hone, hnf, hsA, hsB, hkb⟩ := hC
  have hrec := And.intro hEL (And.intro hmd (And.intro hkd (And.intro h182 (And.intro h183 (And.intro hone (And.intro hnf (And.intro hsA (And.intro hsB hkb))))))))
  have hC0 : zC cu ca EL md kd sA sB S := ⟨P, T, hR, hEL, hmd, hkd, h182, h183, hone, hnf, hsA, hsB, hkb⟩
  have hm0 := hEL.1
  have hm1 := hEL.2.1
  have hS1 : S.2.2.2.2.1 = T.2.1 := by rw [hR.2.2.2.2.2]
  have hS2 : S.2.2.2.2.2 = T.2.2 := by rw [hR.2.2.2.2.2]
  refine z_goti zm_X3_number (Nat.le_of_ble_eq_true rfl) [(0, .ref (ad 0)), (1, .long (lZ (a))), (3, .long (lZ (b)))] rfl (fun p e s m args below meth c A X XX ht E => ?_)
  refine z_aload_n X 0 rfl rfl dX3_number_0 ?_
  refine z_callVvT X XX ht zm_X3_requireRoom zw253 zp1 zw251 (zFitX_of (by decide) (by decide) (by decide) (by decide)) [] (c_X3_requireRoom l hl9 S hS1 ⟨hm0, hm1⟩) rfl rfl (Nat.le_of_ble_eq_true rfl) (by omega) gC_T (q := vwCl[5]) rfl rfl dX3_number_1 (fun E _ h => ⟨S, ⟨hC0, Or.inl ⟨h.1, hmd ▸ h.2⟩⟩, rfl⟩) (by decide) (by decide) (fun u hroom => ?_)
  refine z_lload_n X 2 rfl rfl dX3_number_4 ?_
  refine z_callSi X zm_X3_residue zw272 zw271 (zFitN_of (by decide) (by decide) (by decide) (by decide)) [.long (lZ (b))] (c_X3_residue l (gC ad cI cO S) hb1 hb2) rfl rfl (Nat.le_of_ble_eq_true rfl) dX3_number_5 (fun z _ hz => ?_)
  subst hz
  have hbz := @vz_z (mI b)
  have hbn := vz_nn (mI b)
  have hbl := vz_lt (mI b)
  refine z_istore X [(5, .int (iZ (vz (mI b)))), (0, .ref (ad 0)), (1, .long (lZ (a))), (3, .long (lZ (b)))] rfl (by decide) dX3_number_8 ?_
  refine z_iload X 0 rfl dX3_number_10 ?_
  refine z_if_ne X (tgt := 25) (by omega) dX3_number_12 (by decide) (fun hb12 => ?_) (fun hb12 => ?_)
  · refine z_aload_n X 1 rfl rfl dX3_number_25 ?_
    refine z_iconst X (n := 0) dX3_number_26 ?_
    refine z_iconst X (n := 0) dX3_number_27 ?_
    refine z_lload_n X 2 rfl rfl dX3_number_28 ?_
    refine z_callSi X zm_X3_residue zw272 zw271 (zFitN_of (by decide) (by decide) (by decide) (by decide)) [.long (lZ (a))] (c_X3_residue l (gC ad cI cO S) ha1 ha2) rfl rfl (Nat.le_of_ble_eq_true rfl) dX3_number_29 (fun z _ hz => ?_)
    subst hz
    refine z_iload X 0 rfl dX3_number_32 ?_
    refine z_callSi X zm_X3_inverse zw279 zw278 (zFitN_of (by decide) (by decide) (by decide) (by decide)) [.int (iZ (vz (mI b)))] (c_X3_inverse l (gC ad cI cO S) (mI b)) rfl rfl (Nat.le_of_ble_eq_true rfl) dX3_number_34 (fun z _ hz => ?_)
    subst hz
    have hm1 := @vz_mul_nn (mI a) (mf_inv (mI b))
    have hm2 := @vz_mul_lt (mI a) (mf_inv (mI b))
    refine z_imul X dX3_number_37 ?_
    refine z_sipush X (n := 32003) (by decide) dX3_number_38 ?_
    refine z_irem X (by omega) (by omega) (by omega) (by omega) dX3_number_41 ?_
    refine z_eqi (b := vz (mI a * mf_inv (mI b))) (vz_m _ _) ?_
    refine z_callVi X zm_X3_keepSingle zw283 zp2 zw281 (zFitN_of (by decide) (by decide) (by decide) (by decide)) [.int (iZ (0)), .int (iZ (0)), .int (iZ (vz (mI a * mf_inv (mI b))))] (c_X3_keepSingle HU HA l hR (i := 0) (j := 0) (by omega) (by omega) (mI a * mf_inv (mI b)) hone hm0 hroom) rfl rfl (Nat.le_of_ble_eq_true rfl) (by omega) gC_T (q := vwCl[5]) rfl rfl dX3_number_42 (fun z S1 hu1 => ?_)
    obtain ⟨hz, P1, f1, R1, g1, g2, g3⟩ := hu1
    subst hz
    exact E S1 (by decide) (by decide) ⟨hmd, hmd ▸ hroom, zC_add hrec R1 hroom g1 g2 (zNf_one HU HA _) (fun j hj => g3 j (by omega)), fun q => by have := hbz.mpr q; omega⟩ rfl dX3_number_45
  · exact z_throw X XX ht hl9 (ik := 83) (is := 85) (ic := 87) (cls := "java/lang/ArithmeticException") 1 rfl (by decide +kernel) zw275 zw9 zat_87 dX3_number_15 dX3_number_18 dX3_number_19 dX3_number_21 dX3_number_24 (by decide) (by decide) (by decide) (by decide) (by decide) (by decide) S (⟨hC0, Or.inr ⟨rfl, hmd ▸ hroom, hbz.mp (by omega)⟩⟩) (rfl)
set_option maxHeartbeats 8000000 in
set_option maxRecDepth 100000 in
theorem c_X3_letter {U V : Type} [Lean.Grind.CommRing U] [Lean.Grind.CommRing V] {cu : U → Nat → FP} {ca : V → Nat → U} (HU : mp_P cu) (HA : mp_P ca) (l : Launch) (hl9 : l.stackTraces = false) {D : va_G} {ad sa : Nat → Nat} {cI cO : ClassId} {EL : Int → V × V} {md kd : Int} {sA sB : U} {S : zS} (hC : zC cu ca EL md kd sA sB S) (hlow : kd = 0 → sA = 0 ∧ sB = 1 ∧ ∀ n, 0 ≤ n → n < md → mp_sz ca (EL n).1 ≤ 1 ∧ mp_sz ca (EL n).2 ≤ 1) {kp n : Int} (hkp : -2147483648 ≤ kp ∧ kp < 2147483648) (hn : -2147483648 ≤ n ∧ n < 2147483648) : zTi l yX3_letter cX3_letter 3 (some .int) 8 4 D (zTy cI cO) 419 ad sa [.ref (ad 0), .int (iZ kp), .int (iZ n)] (gC ad cI cO S) (gC ad cI cO) (fun z u => (0 ≤ n ∧ n < md) ∧ md < 120 ∧ kd = 0 ∧ (kp = 1 ∨ kp = 2) ∧ (md_x cu ca (EL n).1 * (EL n).2 - md_x cu ca (EL n).2 * (EL n).1) ≠ 0 ∧ z = md ∧ ∃ sA9 sB9, zC cu ca (zUp EL md (mp_m ca (mp_m cu 1 0) 1, 1)) (md + 1) kp sA9 sB9 u ∧ sB9 ≠ 0 ∧ mp_C ca sB9 * (md_x cu ca (EL n).1 * (EL n).2 - md_x cu ca (EL n).2 * (EL n).1) = mp_C ca sA9 * ((if kp = 1 then (EL n).1 else (EL n).2) * (EL n).2)) (fun E u => zC cu ca EL md kd sA sB u ∧ ((E = "java/lang/IndexOutOfBoundsException" ∧ ¬ (0 ≤ n ∧ n < md)) ∨ (E = "java/lang/IllegalStateException" ∧ (0 ≤ n ∧ n < md) ∧ ¬ md < 120) ∨ (E = "java/lang/IllegalArgumentException" ∧ (0 ≤ n ∧ n < md) ∧ md < 120 ∧ (kd ≠ 0 ∨ ¬ (kp = 1 ∨ kp = 2) ∨ (md_x cu ca (EL n).1 * (EL n).2 - md_x cu ca (EL n).2 * (EL n).1) = 0)))) := by
  obtain ⟨P, T, hR, hEL, hmd, hkd, h182, h183, hone, hnf, hsA, hsB, hkb⟩ := hC
  have hrec := And.intro hEL (And.intro hmd (And.intro hkd (And.intro h182 (And.intro h183 (And.intro hone (And.intro hnf (And.intro hsA (And.intro hsB hkb))))))))
  have hC0 : zC cu ca EL md kd sA sB S := ⟨P, T, hR, hEL, hmd, hkd, h182, h183, hone, hnf, hsA, hsB, hkb⟩
  have hm0 := hEL.1
  have hm1 := hEL.2.1
  have hS1 : S.2.2.2.2.1 = T.2.1 := by rw [hR.2.2.2.2.2]
  have hS2 : S.2.2.2.2.2 = T.2.2 := by rw [hR.2.2.2.2.2]
  refine z_goti zm_X3_letter (Nat.le_of_ble_eq_true rfl) [(0, .ref (ad 0)), (1, .int (iZ (kp))), (2, .int (iZ (n)))] rfl (fun p e s m args below meth c A X XX ht E => ?_)
  refine z_aload_n X 0 rfl rfl dX3_letter_0 ?_
  refine z_iload_n X 2 rfl rfl dX3_letter_1 ?_
  refine z_callVvT X XX ht zm_X3_requireElement zw344 zp5 zw342 (zFitX_of (by decide) (by decide) (by decide) (by decide)) [.int (iZ (n))] (c_X3_requireElement l hl9 S hn hS1 ⟨hm0, hm1⟩) rfl rfl (Nat.le_of_ble_eq_true rfl) (by omega) gC_T (q := vwCl[5]) rfl rfl dX3_letter_2 (fun E _ h => ⟨S, ⟨hC0, Or.inl ⟨h.1, fun q => h.2 ⟨q.1, by omega⟩⟩⟩, rfl⟩) (by decide) (by decide) (fun u hh => ?_)
  have e1 : 0 ≤ n ∧ n < md := ⟨hh.1, by have := hh.2; omega⟩
  obtain ⟨hBa, hBb⟩ := hEL.2.2 n hh.1 hh.2
  have zba : zb cu ca 7 (EL n).1 := hBa.2
  have zbb : zb cu ca 7 (EL n).2 := hBb.2
  have nb := zNf_ne HU HA (hnf n e1.1 e1.2)
  refine z_aload_n X 0 rfl rfl dX3_letter_5 ?_
  refine z_callVvT X XX ht zm_X3_requireRoom zw253 zp1 zw251 (zFitX_of (by decide) (by decide) (by decide) (by decide)) [] (c_X3_requireRoom l hl9 S hS1 ⟨hm0, hm1⟩) rfl rfl (Nat.le_of_ble_eq_true rfl) (by omega) gC_T (q := vwCl[5]) rfl rfl dX3_letter_6 (fun E _ h => ⟨S, ⟨hC0, Or.inr (Or.inl ⟨h.1, e1, hmd ▸ h.2⟩)⟩, rfl⟩) (by decide) (by decide) (fun u hroom => ?_)
  refine z_aload_n X 0 rfl rfl dX3_letter_9 ?_
  refine z_get X zinX3 0 (by omega) gC_T (ci := 5) rfl 2 (by decide) (ref := "TowerFields") zw122 rfl rfl dX3_letter_10 ?_
  refine z_eqi (b := T.2.2) hS2 ?_
  refine z_if_eq X (tgt := 26) (by omega) dX3_letter_13 (by decide) (fun hb13 => ?_) (fun hb13 => ?_)
  · refine z_iload_n X 1 rfl rfl dX3_letter_26 ?_
    refine z_iconst X (n := 1) dX3_letter_27 ?_
    refine z_icmp_eq X (tgt := 46) (by omega) (by omega) dX3_letter_28 (by decide) (fun hb28 => ?_) (fun hb28 => ?_)
    · have hk0 : kd = 0 := by omega
      have hkp3 : kp = 1 ∨ kp = 2 := by omega
      refine z_aload_n X 0 rfl rfl dX3_letter_46 ?_
      refine z_iload_n X 2 rfl rfl dX3_letter_47 ?_
      refine z_callVi X zm_X3_hasNoSlope zw378 zp6 zw376 (zFitN_of (by decide) (by decide) (by decide) (by decide)) [.int (iZ (n))] (c_X3_hasNoSlope HU HA l hR (n := n) (by omega) (by omega) ⟨hBa, hBb⟩ (by rw [h182]; exact hsA) (by rw [h183]; exact hsB) (by omega)) rfl rfl (Nat.le_of_ble_eq_true rfl) (by omega) gC_T (q := vwCl[5]) rfl rfl dX3_letter_48 (fun z S1 hu1 => ?_)
      obtain ⟨hz, P1, R1, v0, v1, v6, hb6, f1⟩ := hu1
      unfold zE at hz v6 hb6
      rw [h182, h183, hkd] at hz v6 hb6
      obtain ⟨hs0, hs1, hsl⟩ := hlow hk0
      have hE0 : ∀ q : V, md_E cu ca sB (zW ca kd sA) q = md_x cu ca q := fun q => by
        rw [md_E, hs1, hs0, hk0, zW, if_neg (by omega), mp_C_1 HA, mp_C_0 HA]
        grind
      rw [hE0, hE0] at hz v6 hb6
      obtain ⟨la, lb⟩ := hsl n e1.1 e1.2
      have zdx : ∀ q : V, zb cu ca 7 q → zb cu ca 7 (md_x cu ca q) := fun q hq => ⟨mp_sz_le HA (fun r hr => by rw [md_x_cf HU HA, mp_sz_out HA (Nat.le_trans hq.1 hr), md_0 HU]), mp_xz_le HU HA (fun r => by rw [md_x_cf HU HA]; exact Nat.le_trans (md_sz HU (n := 6) (Nat.le_trans (mp_xz_row HU HA q r) hq.2)) (by omega))⟩
      have ldx : ∀ q : V, mp_sz ca q ≤ 1 → mp_sz ca (md_x cu ca q) ≤ 1 := fun q hq => mp_sz_le HA (fun r hr => by rw [md_x_cf HU HA, mp_sz_out HA (Nat.le_trans hq hr), md_0 HU])
      have lm : ∀ q r : V, mp_sz ca q ≤ 1 → mp_sz ca r ≤ 1 → mp_sz ca (q * r) ≤ 1 := fun q r hq hr => mp_sz_mul_le HA (m := 0) (n := 0) hq hr
      have xDD : mp_xz cu ca (md_x cu ca (EL n).1 * (EL n).2 - md_x cu ca (EL n).2 * (EL n).1) ≤ 13 := mp_sz_sub (mp_sw_P HU HA) (zb_mul HU HA (m := 6) (n := 6) (zdx _ zba) zbb).2 (zb_mul HU HA (m := 6) (n := 6) (zdx _ zbb) zba).2
      have lDD : mp_sz ca (md_x cu ca (EL n).1 * (EL n).2 - md_x cu ca (EL n).2 * (EL n).1) ≤ 1 := mp_sz_sub HA (lm _ _ (ldx _ la) lb) (lm _ _ (ldx _ lb) la)
      have hz01 : z = 0 ∨ z = 1 := by rw [hz]; split <;> omega
      refine z_if_eq X (tgt := 64) (by omega) dX3_letter_51 (by decide) (fun hb51 => ?_) (fun hb51 => ?_)
      · have hDD : (md_x cu ca (EL n).1 * (EL n).2 - md_x cu ca (EL n).2 * (EL n).1) ≠ 0 := fun q => by rw [if_pos q] at hz; omega
        have hB7 : zb cu ca 7 (if kp = 1 then (EL n).1 else (EL n).2) := by split <;> assumption
        have lB : mp_sz ca ((if kp = 1 then (EL n).1 else (EL n).2) * (EL n).2) ≤ 1 := lm _ _ (by split <;> assumption) lb
        have xB := (zb_mul HU HA (m := 6) (n := 6) hB7 zbb).2
        have hBn : (if kp = 1 then (EL n).1 else (EL n).2) * (EL n).2 ≠ 0 := mp_nz_mul (mp_dom HA (mp_dom HU (mp_Fd_nz mp_FP))) (by
          rcases hkp3 with q1 | q1
          · rw [if_pos q1]
            exact fun q => hDD (by
              have q9 : md_x cu ca (0 : V) = 0 := mp_ext HA (fun r => by rw [md_x_cf HU HA, mp_zero HA, md_0 HU])
              rw [q, q9]; grind)
          · rw [if_neg (by omega)]; exact nb) nb
        refine z_aload_n X 0 rfl rfl dX3_letter_64 ?_
        refine z_iload_n X 1 rfl rfl dX3_letter_65 ?_
        refine z_callVv X zm_X3_setSlope zw425 zp11 zw423 (zFitN_of (by decide) (by decide) (by decide) (by decide)) [.int (iZ (kp))] (c_X3_setSlope HU HA l R1 v0 v1 v6 zba zbb (by omega) (kp := kp) hkp hBn) rfl rfl (Nat.le_of_ble_eq_true rfl) (by omega) gC_T (q := vwCl[5]) rfl rfl dX3_letter_66 (fun S2 hu2 => ?_)
        obtain ⟨P2, f, x, y, R2, hl1, ex, ey, hcp, p182, p183, f2⟩ := hu2
        have hAd := mp_dom HA (mp_dom HU (mp_Fd_nz mp_FP))
        have hf0 : f ≠ 0 := fun q => by rw [q] at ex; exact hDD (by rw [ex]; grind)
        have hx0 : x ≠ 0 := fun q => by rw [q] at ex; exact hDD (by rw [ex]; grind)
        have hy0 : y ≠ 0 := fun q => by rw [q] at ey; exact hBn (by rw [ey]; grind)
        have lx : mp_sz ca x ≤ 1 := by
          have := mp_D_sz HA (mp_dom HU (mp_Fd_nz mp_FP)) (a := x) (b := (md_x cu ca (EL n).1 * (EL n).2 - md_x cu ca (EL n).2 * (EL n).1)) ⟨f, by rw [ex]; grind⟩ hDD
          omega
        have ly : mp_sz ca y ≤ 1 := by
          have := mp_D_sz HA (mp_dom HU (mp_Fd_nz mp_FP)) (a := y) (b := (if kp = 1 then (EL n).1 else (EL n).2) * (EL n).2) ⟨f, by rw [ey]; grind⟩ hBn
          omega
        have xx : mp_sz cu (ca x 0) ≤ 13 := by
          have q1 := mp_xz_mul mp_FP HU HA hf0 hx0
          have q2 := mp_xz_pos HU HA hf0
          have q3 := mp_xz_row HU HA x 0
          rw [← ex] at q1
          omega
        have xy : mp_sz cu (ca y 0) ≤ 13 := by
          have q1 := mp_xz_mul mp_FP HU HA hf0 hy0
          have q2 := mp_xz_pos HU HA hf0
          have q3 := mp_xz_row HU HA y 0
          rw [← ey] at q1
          omega
        have exC := mp_sz_1 HA lx
        have eyC := mp_sz_1 HA ly
        have hyn : ca y 0 ≠ 0 := fun q => hy0 (by rw [eyC, q, mp_C_0 HA])
        have hrel : mp_C ca (ca y 0) * (md_x cu ca (EL n).1 * (EL n).2 - md_x cu ca (EL n).2 * (EL n).1) = mp_C ca (ca x 0) * ((if kp = 1 then (EL n).1 else (EL n).2) * (EL n).2) := by
          rw [← exC, ← eyC, ex, ey]
          grind
        refine z_aload_n X 0 rfl rfl dX3_letter_69 ?_
        refine z_iload_n X 1 rfl rfl dX3_letter_70 ?_
        refine zt_pkind X dX3_letter_71 ?_
        have R3 := zR_uk R2 kp
        have hV8 : zV ca P2 8 (1 : V) := zV_eq hone (fun i hi => by rw [f2 _ (by omega), f1 _ (by omega)])
        have hrec3 := And.intro (show zEls cu ca (T.1, T.2.1, kp) EL from hEL) (And.intro (show (T.1, T.2.1, kp).2.1 = md from hmd) (And.intro (rfl : (T.1, T.2.1, kp).2.2 = kp) (And.intro p182 (And.intro p183 (And.intro hV8 (And.intro hnf (And.intro xx (And.intro xy (show 0 ≤ kp ∧ kp ≤ 2 by omega)))))))))
        obtain ⟨S3, hS3⟩ : ∃ S3, S3 = uk S2 kp := ⟨_, rfl⟩
        rw [← hS3] at R3 ⊢
        refine z_aload_n X 0 rfl rfl dX3_letter_74 ?_
        refine z_iconst X (n := 1) dX3_letter_75 ?_
        refine z_iconst X (n := 0) dX3_letter_76 ?_
        refine z_iconst X (n := 1) dX3_letter_77 ?_
        refine z_eqi (b := vz (1 : FP)) rfl ?_
        refine z_callVi X zm_X3_keepSingle zw283 zp2 zw281 (zFitN_of (by decide) (by decide) (by decide) (by decide)) [.int (iZ (1)), .int (iZ (0)), .int (iZ (vz (1 : FP)))] (c_X3_keepSingle HU HA l R3 (i := 1) (j := 0) (by omega) (by omega) 1 hrec3.2.2.2.2.2.1 hm0 hroom) rfl rfl (Nat.le_of_ble_eq_true rfl) (by omega) gC_T (q := vwCl[5]) rfl rfl dX3_letter_78 (fun z S4 hu4 => ?_)
        obtain ⟨hz4, P4, f4, R4, g1, g2, g3⟩ := hu4
        subst hz4
        exact E S4 (by decide) (by decide) ⟨e1, hmd ▸ hroom, hk0, hkp3, hDD, hmd, _, _, zC_add hrec3 R4 hroom g1 g2 (zNf_one HU HA _) (fun j hj => g3 j (by omega)), hyn, hrel⟩ rfl dX3_letter_81
      · exact z_throw X XX ht hl9 (ik := 102) (is := 113) (ic := 106) (cls := "java/lang/IllegalArgumentException") 5 rfl (by decide +kernel) zw359 zw14 zat_106 dX3_letter_54 dX3_letter_57 dX3_letter_58 dX3_letter_60 dX3_letter_63 (by decide) (by decide) (by decide) (by decide) (by decide) (by decide) S1 (⟨zC_same hrec R1 (fun j hj => f1 j (by omega)), Or.inr (Or.inr ⟨rfl, e1, hmd ▸ hroom, Or.inr (Or.inr (Classical.byContradiction (fun q => by rw [if_neg q] at hz; omega)))⟩)⟩) (rfl)
    · refine z_iload_n X 1 rfl rfl dX3_letter_31 ?_
      refine z_iconst X (n := 2) dX3_letter_32 ?_
      refine z_icmp_eq X (tgt := 46) (by omega) (by omega) dX3_letter_33 (by decide) (fun hb33 => ?_) (fun hb33 => ?_)
      · have hk0 : kd = 0 := by omega
        have hkp3 : kp = 1 ∨ kp = 2 := by omega
        refine z_aload_n X 0 rfl rfl dX3_letter_46 ?_
        refine z_iload_n X 2 rfl rfl dX3_letter_47 ?_
        refine z_callVi X zm_X3_hasNoSlope zw378 zp6 zw376 (zFitN_of (by decide) (by decide) (by decide) (by decide)) [.int (iZ (n))] (c_X3_hasNoSlope HU HA l hR (n := n) (by omega) (by omega) ⟨hBa, hBb⟩ (by rw [h182]; exact hsA) (by rw [h183]; exact hsB) (by omega)) rfl rfl (Nat.le_of_ble_eq_true rfl) (by omega) gC_T (q := vwCl[5]) rfl rfl dX3_letter_48 (fun z S1 hu1 => ?_)
        obtain ⟨hz, P1, R1, v0, v1, v6, hb6, f1⟩ := hu1
        unfold zE at hz v6 hb6
        rw [h182, h183, hkd] at hz v6 hb6
        obtain ⟨hs0, hs1, hsl⟩ := hlow hk0
        have hE0 : ∀ q : V, md_E cu ca sB (zW ca kd sA) q = md_x cu ca q := fun q => by
          rw [md_E, hs1, hs0, hk0, zW, if_neg (by omega), mp_C_1 HA, mp_C_0 HA]
          grind
        rw [hE0, hE0] at hz v6 hb6
        obtain ⟨la, lb⟩ := hsl n e1.1 e1.2
        have zdx : ∀ q : V, zb cu ca 7 q → zb cu ca 7 (md_x cu ca q) := fun q hq => ⟨mp_sz_le HA (fun r hr => by rw [md_x_cf HU HA, mp_sz_out HA (Nat.le_trans hq.1 hr), md_0 HU]), mp_xz_le HU HA (fun r => by rw [md_x_cf HU HA]; exact Nat.le_trans (md_sz HU (n := 6) (Nat.le_trans (mp_xz_row HU HA q r) hq.2)) (by omega))⟩
        have ldx : ∀ q : V, mp_sz ca q ≤ 1 → mp_sz ca (md_x cu ca q) ≤ 1 := fun q hq => mp_sz_le HA (fun r hr => by rw [md_x_cf HU HA, mp_sz_out HA (Nat.le_trans hq hr), md_0 HU])
        have lm : ∀ q r : V, mp_sz ca q ≤ 1 → mp_sz ca r ≤ 1 → mp_sz ca (q * r) ≤ 1 := fun q r hq hr => mp_sz_mul_le HA (m := 0) (n := 0) hq hr
        have xDD : mp_xz cu ca (md_x cu ca (EL n).1 * (EL n).2 - md_x cu ca (EL n).2 * (EL n).1) ≤ 13 := mp_sz_sub (mp_sw_P HU HA) (zb_mul HU HA (m := 6) (n := 6) (zdx _ zba) zbb).2 (zb_mul HU HA (m := 6) (n := 6) (zdx _ zbb) zba).2
        have lDD : mp_sz ca (md_x cu ca (EL n).1 * (EL n).2 - md_x cu ca (EL n).2 * (EL n).1) ≤ 1 := mp_sz_sub HA (lm _ _ (ldx _ la) lb) (lm _ _ (ldx _ lb) la)
        have hz01 : z = 0 ∨ z = 1 := by rw [hz]; split <;> omega
        refine z_if_eq X (tgt := 64) (by omega) dX3_letter_51 (by decide) (fun hb51 => ?_) (fun hb51 => ?_)
        · have hDD : (md_x cu ca (EL n).1 * (EL n).2 - md_x cu ca (EL n).2 * (EL n).1) ≠ 0 := fun q => by rw [if_pos q] at hz; omega
          have hB7 : zb cu ca 7 (if kp = 1 then (EL n).1 else (EL n).2) := by split <;> assumption
          have lB : mp_sz ca ((if kp = 1 then (EL n).1 else (EL n).2) * (EL n).2) ≤ 1 := lm _ _ (by split <;> assumption) lb
          have xB := (zb_mul HU HA (m := 6) (n := 6) hB7 zbb).2
          have hBn : (if kp = 1 then (EL n).1 else (EL n).2) * (EL n).2 ≠ 0 := mp_nz_mul (mp_dom HA (mp_dom HU (mp_Fd_nz mp_FP))) (by
            rcases hkp3 with q1 | q1
            · rw [if_pos q1]
              exact fun q => hDD (by
                have q9 : md_x cu ca (0 : V) = 0 := mp_ext HA (fun r => by rw [md_x_cf HU HA, mp_zero HA, md_0 HU])
                rw [q, q9]; grind)
            · rw [if_neg (by omega)]; exact nb) nb
          refine z_aload_n X 0 rfl rfl dX3_letter_64 ?_
          refine z_iload_n X 1 rfl rfl dX3_letter_65 ?_
          refine z_callVv X zm_X3_setSlope zw425 zp11 zw423 (zFitN_of (by decide) (by decide) (by decide) (by decide)) [.int (iZ (kp))] (c_X3_setSlope HU HA l R1 v0 v1 v6 zba zbb (by omega) (kp := kp) hkp hBn) rfl rfl (Nat.le_of_ble_eq_true rfl) (by omega) gC_T (q := vwCl[5]) rfl rfl dX3_letter_66 (fun S2 hu2 => ?_)
          obtain ⟨P2, f, x, y, R2, hl1, ex, ey, hcp, p182, p183, f2⟩ := hu2
          have hAd := mp_dom HA (mp_dom HU (mp_Fd_nz mp_FP))
          have hf0 : f ≠ 0 := fun q => by rw [q] at ex; exact hDD (by rw [ex]; grind)
          have hx0 : x ≠ 0 := fun q => by rw [q] at ex; exact hDD (by rw [ex]; grind)
          have hy0 : y ≠ 0 := fun q => by rw [q] at ey; exact hBn (by rw [ey]; grind)
          have lx : mp_sz ca x ≤ 1 := by
            have := mp_D_sz HA (mp_dom HU (mp_Fd_nz mp_FP)) (a := x) (b := (md_x cu ca (EL n).1 * (EL n).2 - md_x cu ca (EL n).2 * (EL n).1)) ⟨f, by rw [ex]; grind⟩ hDD
            omega
          have ly : mp_sz ca y ≤ 1 := by
            have := mp_D_sz HA (mp_dom HU (mp_Fd_nz mp_FP)) (a := y) (b := (if kp = 1 then (EL n).1 else (EL n).2) * (EL n).2) ⟨f, by rw [ey]; grind⟩ hBn
            omega
          have xx : mp_sz cu (ca x 0) ≤ 13 := by
            have q1 := mp_xz_mul mp_FP HU HA hf0 hx0
            have q2 := mp_xz_pos HU HA hf0
            have q3 := mp_xz_row HU HA x 0
            rw [← ex] at q1
            omega
          have xy : mp_sz cu (ca y 0) ≤ 13 := by
            have q1 := mp_xz_mul mp_FP HU HA hf0 hy0
            have q2 := mp_xz_pos HU HA hf0
            have q3 := mp_xz_row HU HA y 0
            rw [← ey] at q1
            omega
          have exC := mp_sz_1 HA lx
          have eyC := mp_sz_1 HA ly
          have hyn : ca y 0 ≠ 0 := fun q => hy0 (by rw [eyC, q, mp_C_0 HA])
          have hrel : mp_C ca (ca y 0) * (md_x cu ca (EL n).1 * (EL n).2 - md_x cu ca (EL n).2 * (EL n).1) = mp_C ca (ca x 0) * ((if kp = 1 then (EL n).1 else (EL n).2) * (EL n).2) := by
            rw [← exC, ← eyC, ex, ey]
            grind
          refine z_aload_n X 0 rfl rfl dX3_letter_69 ?_
          refine z_iload_n X 1 rfl rfl dX3_letter_70 ?_
          refine zt_pkind X dX3_letter_71 ?_
          have R3 := zR_uk R2 kp
          have hV8 : zV ca P2 8 (1 : V) := zV_eq hone (fun i hi => by rw [f2 _ (by omega), f1 _ (by omega)])
          have hrec3 := And.intro (show zEls cu ca (T.1, T.2.1, kp) EL from hEL) (And.intro (show (T.1, T.2.1, kp).2.1 = md from hmd) (And.intro (rfl : (T.1, T.2.1, kp).2.2 = kp) (And.intro p182 (And.intro p183 (And.intro hV8 (And.intro hnf (And.intro xx (And.intro xy (show 0 ≤ kp ∧ kp ≤ 2 by omega)))))))))
          obtain ⟨S3, hS3⟩ : ∃ S3, S3 = uk S2 kp := ⟨_, rfl⟩
          rw [← hS3] at R3 ⊢
          refine z_aload_n X 0 rfl rfl dX3_letter_74 ?_
          refine z_iconst X (n := 1) dX3_letter_75 ?_
          refine z_iconst X (n := 0) dX3_letter_76 ?_
          refine z_iconst X (n := 1) dX3_letter_77 ?_
          refine z_eqi (b := vz (1 : FP)) rfl ?_
          refine z_callVi X zm_X3_keepSingle zw283 zp2 zw281 (zFitN_of (by decide) (by decide) (by decide) (by decide)) [.int (iZ (1)), .int (iZ (0)), .int (iZ (vz (1 : FP)))] (c_X3_keepSingle HU HA l R3 (i := 1) (j := 0) (by omega) (by omega) 1 hrec3.2.2.2.2.2.1 hm0 hroom) rfl rfl (Nat.le_of_ble_eq_true rfl) (by omega) gC_T (q := vwCl[5]) rfl rfl dX3_letter_78 (fun z S4 hu4 => ?_)
          obtain ⟨hz4, P4, f4, R4, g1, g2, g3⟩ := hu4
          subst hz4
          exact E S4 (by decide) (by decide) ⟨e1, hmd ▸ hroom, hk0, hkp3, hDD, hmd, _, _, zC_add hrec3 R4 hroom g1 g2 (zNf_one HU HA _) (fun j hj => g3 j (by omega)), hyn, hrel⟩ rfl dX3_letter_81
        · exact z_throw X XX ht hl9 (ik := 102) (is := 113) (ic := 106) (cls := "java/lang/IllegalArgumentException") 5 rfl (by decide +kernel) zw359 zw14 zat_106 dX3_letter_54 dX3_letter_57 dX3_letter_58 dX3_letter_60 dX3_letter_63 (by decide) (by decide) (by decide) (by decide) (by decide) (by decide) S1 (⟨zC_same hrec R1 (fun j hj => f1 j (by omega)), Or.inr (Or.inr ⟨rfl, e1, hmd ▸ hroom, Or.inr (Or.inr (Classical.byContradiction (fun q => by rw [if_neg q] at hz; omega)))⟩)⟩) (rfl)
      · exact z_throw X XX ht hl9 (ik := 102) (is := 107) (ic := 106) (cls := "java/lang/IllegalArgumentException") 4 rfl (by decide +kernel) zw359 zw14 zat_106 dX3_letter_36 dX3_letter_39 dX3_letter_40 dX3_letter_42 dX3_letter_45 (by decide) (by decide) (by decide) (by decide) (by decide) (by decide) S (⟨hC0, Or.inr (Or.inr ⟨rfl, e1, hmd ▸ hroom, Or.inr (Or.inl (by omega))⟩)⟩) (rfl)
  · exact z_throw X XX ht hl9 (ik := 102) (is := 104) (ic := 106) (cls := "java/lang/IllegalArgumentException") 3 rfl (by decide +kernel) zw359 zw14 zat_106 dX3_letter_16 dX3_letter_19 dX3_letter_20 dX3_letter_22 dX3_letter_25 (by decide) (by decide) (by decide) (by decide) (by decide) (by decide) S (⟨hC0, Or.inr (Or.inr ⟨rfl, e1, hmd ▸ hroom, Or.inl (by omega)⟩)⟩) (rfl)
