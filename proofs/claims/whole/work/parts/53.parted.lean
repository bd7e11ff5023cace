section
variable {U V : Type}
/-- without squares: what is left of a when the divisor that it shares with its derivation by t is taken out -/
def zSq [Lean.Grind.CommRing U] [Lean.Grind.CommRing V] (cu : U → Nat → FP) (ca : V → Nat → U) (a x : V) : Prop := ∃ f y, a = f * x ∧ md_d ca a = f * y ∧ mp_Cp x y ∧ mp_lc cu (mp_lc ca f) = 1
def zSp [Lean.Grind.CommRing U] [Lean.Grind.CommRing V] (cu : U → Nat → FP) (ca : V → Nat → U) (kd : Int) (sA sB : U) (kp : Int) (x r : V) : Prop := ∃ f w y, x = f * w ∧ md_E cu ca sB (zW ca kd sA) x = f * y ∧ mp_Cp w y ∧ mp_lc cu (mp_lc ca f) = 1 ∧ r = if kp = 4 then f else w
end
set_option maxHeartbeats 8000000 in
set_option maxRecDepth 100000 in
theorem c_X3_part {U V : Type} [Lean.Grind.CommRing U] [Lean.Grind.CommRing V] {cu : U → Nat → FP} {ca : V → Nat → U} (HU : mp_P cu) (HA : mp_P ca) (l : Launch) (hl9 : l.stackTraces = false) {D : va_G} {ad sa : Nat → Nat} {cI cO : ClassId} {EL : Int → V × V} {md kd : Int} {sA sB : U} {S : zS} (hC : zC cu ca EL md kd sA sB S) {n kp : Int} (hn : -2147483648 ≤ n ∧ n < 2147483648) (hkp : -2147483648 ≤ kp ∧ kp < 2147483648) : zTi l yX3_part cX3_part 3 (some .int) 8 3 D (zTy cI cO) 419 ad sa [.ref (ad 0), .int (iZ n), .int (iZ kp)] (gC ad cI cO S) (gC ad cI cO) (fun z u => (0 ≤ n ∧ n < md) ∧ md < 120 ∧ (0 ≤ kp ∧ kp ≤ 4) ∧ z = md ∧ ∃ r : V, zC cu ca (zUp EL md (r, 1)) (md + 1) kd sA sB u ∧ ((kp = 0 ∧ r = (EL n).1) ∨ (kp = 1 ∧ r = (EL n).2) ∨ (kp = 2 ∧ zSq cu ca (EL n).2 r) ∨ (3 ≤ kp ∧ ∃ x, zSq cu ca (EL n).2 x ∧ zSp cu ca kd sA sB kp x r))) (fun E u => zC cu ca EL md kd sA sB u ∧ ((E = "java/lang/IndexOutOfBoundsException" ∧ ¬ (0 ≤ n ∧ n < md)) ∨ (E = "java/lang/IllegalStateException" ∧ (0 ≤ n ∧ n < md) ∧ ¬ md < 120) ∨ (E = "java/lang/IllegalArgumentException" ∧ (0 ≤ n ∧ n < md) ∧ md < 120 ∧ ¬ (0 ≤ kp ∧ kp ≤ 4)))) := by
  obtain ⟨P, T, hR, hEL, hmd, hkd, h182, h183, hone, hnf, hsA, hsB, hkb⟩ := hC
  have hrec := And.intro hEL (And.intro hmd (And.intro hkd (And.intro h182 (And.intro h183 (And.intro hone (And.intro hnf (And.intro hsA (And.intro hsB hkb))))))))
  have hC0 : zC cu ca EL md kd sA sB S := ⟨P, T, hR, hEL, hmd, hkd, h182, h183, hone, hnf, hsA, hsB, hkb⟩
  have hm0 := hEL.1
  have hm1 := hEL.2.1
  have hS1 : S.2.2.2.2.1 = T.2.1 := by rw [hR.2.2.2.2.2]
  have hS2 : S.2.2.2.2.2 = T.2.2 := by rw [hR.2.2.2.2.2]
  refine z_goti zm_X3_part (Nat.le_of_ble_eq_true rfl) [(0, .ref (ad 0)), (1, .int (iZ (n))), (2, .int (iZ (kp)))] rfl (fun p e s m args below meth c A X XX ht E => ?_)
  refine z_aload_n X 0 rfl rfl dX3_part_0 ?_
  refine z_iload_n X 1 rfl rfl dX3_part_1 ?_
  refine z_callVvT X XX ht zm_X3_requireElement zw344 zp5 zw342 (zFitX_of (by decide) (by decide) (by decide) (by decide)) [.int (iZ (n))] (c_X3_requireElement l hl9 S hn hS1 ⟨hm0, hm1⟩) rfl rfl (Nat.le_of_ble_eq_true rfl) (by omega) gC_T (q := vwCl[5]) rfl rfl dX3_part_2 (fun E _ h => ⟨S, ⟨hC0, Or.inl ⟨h.1, fun q => h.2 ⟨q.1, by omega⟩⟩⟩, rfl⟩) (by decide) (by decide) (fun u hh => ?_)
  have e1 : 0 ≤ n ∧ n < md := ⟨hh.1, by have := hh.2; omega⟩
  obtain ⟨hBa, hBb⟩ := hEL.2.2 n hh.1 hh.2
  have zba : zb cu ca 7 (EL n).1 := hBa.2
  have zbb : zb cu ca 7 (EL n).2 := hBb.2
  have nb := zNf_ne HU HA (hnf n e1.1 e1.2)
  refine z_aload_n X 0 rfl rfl dX3_part_5 ?_
  refine z_callVvT X XX ht zm_X3_requireRoom zw253 zp1 zw251 (zFitX_of (by decide) (by decide) (by decide) (by decide)) [] (c_X3_requireRoom l hl9 S hS1 ⟨hm0, hm1⟩) rfl rfl (Nat.le_of_ble_eq_true rfl) (by omega) gC_T (q := vwCl[5]) rfl rfl dX3_part_6 (fun E _ h => ⟨S, ⟨hC0, Or.inr (Or.inl ⟨h.1, e1, by have := h.2; omega⟩)⟩, rfl⟩) (by decide) (by decide) (fun u hroom => ?_)
  refine z_iload_n X 2 rfl rfl dX3_part_9 ?_
  refine z_if_lt X (tgt := 18) (by omega) dX3_part_10 (by decide) (fun hb10 => ?_) (fun hb10 => ?_)
  · exact z_throw X XX ht hl9 (ik := 102) (is := 148) (ic := 106) (cls := "java/lang/IllegalArgumentException") 8 rfl (by decide +kernel) zw359 zw14 zat_106 dX3_part_18 dX3_part_21 dX3_part_22 dX3_part_24 dX3_part_27 (by decide) (by decide) (by decide) (by decide) (by decide) (by decide) S (⟨hC0, Or.inr (Or.inr ⟨rfl, e1, by omega, by omega⟩)⟩) (rfl)
  · refine z_iload_n X 2 rfl rfl dX3_part_13 ?_
    refine z_iconst X (n := 4) dX3_part_14 ?_
    refine z_icmp_le X (tgt := 28) (by omega) (by omega) dX3_part_15 (by decide) (fun hb15 => ?_) (fun hb15 => ?_)
    · refine z_aload_n X 0 rfl rfl dX3_part_28 ?_
      refine z_iload_n X 1 rfl rfl dX3_part_29 ?_
      refine z_iload_n X 2 rfl rfl dX3_part_30 ?_
      refine z_if_ne X (tgt := 38) (by omega) dX3_part_31 (by decide) (fun hb31 => ?_) (fun hb31 => ?_)
      · refine z_iconst X (n := 1) dX3_part_38 ?_
        have zbL : zb cu ca 7 (EL n).2 := zbb
        refine z_aload_n X 0 rfl rfl dX3_part_39 ?_
        refine z_get X zinX3 0 (by omega) gC_T (ci := 5) rfl 5 (by decide) (ref := "TowerFields") zw125 rfl rfl dX3_part_40 ?_
        refine z_callVv X zm_X3_load zw386 zp8 zw384 (zFitN_of (by decide) (by decide) (by decide) (by decide)) [.int (iZ (n)), .int (iZ (1)), .ref (ad (0 + 3))] (c_X3_load HU HA l hR (q := 0) (by omega) (a0 := n) (b0 := 1) (by omega) (by omega) (by omega) (by omega) hBb) rfl rfl (Nat.le_of_ble_eq_true rfl) (by omega) gC_T (q := vwCl[5]) rfl rfl dX3_part_43 (fun S1 R1 => ?_)
        obtain ⟨P1, eP1, vP1, kP1, fP1⟩ := zP_new ca P 0 ((EL n).2) (Nat.le_trans hBb.2.1 (by omega))
        rw [← eP1] at R1
        refine z_iload_n X 2 rfl rfl dX3_part_46 ?_
        refine z_iconst X (n := 2) dX3_part_47 ?_
        refine z_icmp_lt X (tgt := 59) (by omega) (by omega) dX3_part_48 (by decide) (fun hb48 => ?_) (fun hb48 => ?_)
        · refine z_iload_n X 2 rfl rfl dX3_part_59 ?_
          refine z_iconst X (n := 3) dX3_part_60 ?_
          refine z_icmp_lt X (tgt := 73) (by omega) (by omega) dX3_part_61 (by decide) (fun hb61 => ?_) (fun hb61 => absurd hb61 (by omega))
          refine z_aload_n X 0 rfl rfl dX3_part_73 ?_
          refine z_aload_n X 0 rfl rfl dX3_part_74 ?_
          refine z_get X zinX3 0 (by omega) gC_T (ci := 5) rfl 5 (by decide) (ref := "TowerFields") zw125 rfl rfl dX3_part_75 ?_
          refine z_aload_n X 0 rfl rfl dX3_part_78 ?_
          refine z_get X zinX3 0 (by omega) gC_T (ci := 5) rfl 13 (by decide) (ref := "TowerFields") zw133 rfl rfl dX3_part_79 ?_
          refine z_callVi X zm_X3_keep zw295 zp3 zw293 (zFitN_of (by decide) (by decide) (by decide) (by decide)) [.ref (ad (0 + 3)), .ref (ad (8 + 3))] (c_X3_keep HU HA l R1 (q1 := 0) (q2 := 8) (by omega) (by omega) vP1 (kP1 8 _ (by omega) hone) zbL (zb_one HU HA) hm0 hroom) rfl rfl (Nat.le_of_ble_eq_true rfl) (by omega) gC_T (q := vwCl[5]) rfl rfl dX3_part_82 (fun z S9 hu9 => ?_)
          obtain ⟨hz, f9, R9, g1, g2, g3⟩ := hu9
          subst hz
          exact E S9 (by decide) (by decide) ⟨e1, by omega, by omega, hmd, _, zC_add hrec R9 hroom g1 ⟨by rw [show (98 * T.2.1 + 49 * 0).toNat = (98 * T.2.1).toNat by omega]; exact g2, by rw [show (98 * T.2.1 + 49 * 1).toNat = (98 * T.2.1).toNat + 49 by omega]; exact g3⟩ (zNf_one HU HA _) (fun j hj => by rw [fP1 j (by omega)]), Or.inr (Or.inl ⟨by omega, rfl⟩)⟩ rfl dX3_part_85
        · refine z_aload_n X 0 rfl rfl dX3_part_51 ?_
          refine z_aload_n X 0 rfl rfl dX3_part_52 ?_
          refine z_get X zinX3 0 (by omega) gC_T (ci := 5) rfl 5 (by decide) (ref := "TowerFields") zw125 rfl rfl dX3_part_53 ?_
          refine z_callVv X zm_X3_makeSquareFree zw619 zp25 zw617 (zFitN_of (by decide) (by decide) (by decide) (by decide)) [.ref (ad (0 + 3))] (c_X3_makeSquareFree HU HA l R1 vP1 zbb nb) rfl rfl (Nat.le_of_ble_eq_true rfl) (by omega) gC_T (q := vwCl[5]) rfl rfl dX3_part_56 (fun S2 hu2 => ?_)
          obtain ⟨P2, ff, x2, yy, R2, hx2, hl1, ex, ey, hcp, f2⟩ := hu2
          have hone2 : zV ca P2 8 (1 : V) := zV_eq (kP1 8 _ (by omega) hone) (fun i hi => f2 _ (by omega))
          have hD2 : mp_D x2 (EL n).2 := ⟨ff, by rw [ex]; grind⟩
          have zbx : zb cu ca 7 x2 := zV_zb HU HA hD2 nb zbb
          have nx : x2 ≠ 0 := fun z => nb (by rw [ex, z]; grind)
          have h1822 : P2 182 = sA := by rw [f2 _ (by omega), fP1 _ (by omega), h182]
          have h1832 : P2 183 = sB := by rw [f2 _ (by omega), fP1 _ (by omega), h183]
          refine z_iload_n X 2 rfl rfl dX3_part_59 ?_
          refine z_iconst X (n := 3) dX3_part_60 ?_
          refine z_icmp_lt X (tgt := 73) (by omega) (by omega) dX3_part_61 (by decide) (fun hb61 => ?_) (fun hb61 => ?_)
          · refine z_aload_n X 0 rfl rfl dX3_part_73 ?_
            refine z_aload_n X 0 rfl rfl dX3_part_74 ?_
            refine z_get X zinX3 0 (by omega) gC_T (ci := 5) rfl 5 (by decide) (ref := "TowerFields") zw125 rfl rfl dX3_part_75 ?_
            refine z_aload_n X 0 rfl rfl dX3_part_78 ?_
            refine z_get X zinX3 0 (by omega) gC_T (ci := 5) rfl 13 (by decide) (ref := "TowerFields") zw133 rfl rfl dX3_part_79 ?_
            refine z_callVi X zm_X3_keep zw295 zp3 zw293 (zFitN_of (by decide) (by decide) (by decide) (by decide)) [.ref (ad (0 + 3)), .ref (ad (8 + 3))] (c_X3_keep HU HA l R2 (q1 := 0) (q2 := 8) (by omega) (by omega) hx2 hone2 zbx (zb_one HU HA) hm0 hroom) rfl rfl (Nat.le_of_ble_eq_true rfl) (by omega) gC_T (q := vwCl[5]) rfl rfl dX3_part_82 (fun z S9 hu9 => ?_)
            obtain ⟨hz, f9, R9, g1, g2, g3⟩ := hu9
            subst hz
            exact E S9 (by decide) (by decide) ⟨e1, by omega, by omega, hmd, _, zC_add hrec R9 hroom g1 ⟨by rw [show (98 * T.2.1 + 49 * 0).toNat = (98 * T.2.1).toNat by omega]; exact g2, by rw [show (98 * T.2.1 + 49 * 1).toNat = (98 * T.2.1).toNat + 49 by omega]; exact g3⟩ (zNf_one HU HA _) (fun j hj => by rw [f2 j (by omega), fP1 j (by omega)]), Or.inr (Or.inr (Or.inl ⟨by omega, ff, yy, ex, ey, hcp, hl1⟩))⟩ rfl dX3_part_85
          · refine z_aload_n X 0 rfl rfl dX3_part_64 ?_
            refine z_aload_n X 0 rfl rfl dX3_part_65 ?_
            refine z_get X zinX3 0 (by omega) gC_T (ci := 5) rfl 5 (by decide) (ref := "TowerFields") zw125 rfl rfl dX3_part_66 ?_
            refine z_iload_n X 2 rfl rfl dX3_part_69 ?_
            refine z_callVv X zm_X3_splitSquareFree zw625 zp26 zw623 (zFitN_of (by decide) (by decide) (by decide) (by decide)) [.ref (ad (0 + 3)), .int (iZ (kp))] (c_X3_splitSquareFree HU HA l R2 hx2 zbx nx (by rw [h1822]; exact hsA) (by rw [h1832]; exact hsB) (by omega) hkp) rfl rfl (Nat.le_of_ble_eq_true rfl) (by omega) gC_T (q := vwCl[5]) rfl rfl dX3_part_70 (fun S3 hu3 => ?_)
            obtain ⟨P3, f4, w4, y4, R3, hx3, hl4, ex4, ey4, hcp4, f3⟩ := hu3
            unfold zE at ey4
            rw [h1822, h1832, hkd] at ey4
            have hone3 : zV ca P3 8 (1 : V) := zV_eq hone2 (fun i hi => f3 _ (by omega))
            have zbr : zb cu ca 7 (if kp = 4 then f4 else w4) := by
              split
              · exact zV_zb HU HA ⟨w4, ex4⟩ nx zbx
              · exact zV_zb HU HA ⟨f4, by rw [ex4]; grind⟩ nx zbx
            refine z_aload_n X 0 rfl rfl dX3_part_73 ?_
            refine z_aload_n X 0 rfl rfl dX3_part_74 ?_
            refine z_get X zinX3 0 (by omega) gC_T (ci := 5) rfl 5 (by decide) (ref := "TowerFields") zw125 rfl rfl dX3_part_75 ?_
            refine z_aload_n X 0 rfl rfl dX3_part_78 ?_
            refine z_get X zinX3 0 (by omega) gC_T (ci := 5) rfl 13 (by decide) (ref := "TowerFields") zw133 rfl rfl dX3_part_79 ?_
            refine z_callVi X zm_X3_keep zw295 zp3 zw293 (zFitN_of (by decide) (by decide) (by decide) (by decide)) [.ref (ad (0 + 3)), .ref (ad (8 + 3))] (c_X3_keep HU HA l R3 (q1 := 0) (q2 := 8) (by omega) (by omega) hx3 hone3 zbr (zb_one HU HA) hm0 hroom) rfl rfl (Nat.le_of_ble_eq_true rfl) (by omega) gC_T (q := vwCl[5]) rfl rfl dX3_part_82 (fun z S9 hu9 => ?_)
            obtain ⟨hz, f9, R9, g1, g2, g3⟩ := hu9
            subst hz
            exact E S9 (by decide) (by decide) ⟨e1, by omega, by omega, hmd, _, zC_add hrec R9 hroom g1 ⟨by rw [show (98 * T.2.1 + 49 * 0).toNat = (98 * T.2.1).toNat by omega]; exact g2, by rw [show (98 * T.2.1 + 49 * 1).toNat = (98 * T.2.1).toNat + 49 by omega]; exact g3⟩ (zNf_one HU HA _) (fun j hj => by rw [f3 j (by omega), f2 j (by omega), fP1 j (by omega)]), Or.inr (Or.inr (Or.inr ⟨by omega, x2, ⟨ff, yy, ex, ey, hcp, hl1⟩, f4, w4, y4, ex4, ey4, hcp4, hl4, rfl⟩))⟩ rfl dX3_part_85
      · refine z_iconst X (n := 0) dX3_part_34 ?_
        refine z_goto X (tgt := 39) dX3_part_35 (by decide) ?_
        have zbL : zb cu ca 7 (EL n).1 := zba
        refine z_aload_n X 0 rfl rfl dX3_part_39 ?_
        refine z_get X zinX3 0 (by omega) gC_T (ci := 5) rfl 5 (by decide) (ref := "TowerFields") zw125 rfl rfl dX3_part_40 ?_
        refine z_callVv X zm_X3_load zw386 zp8 zw384 (zFitN_of (by decide) (by decide) (by decide) (by decide)) [.int (iZ (n)), .int (iZ (0)), .ref (ad (0 + 3))] (c_X3_load HU HA l hR (q := 0) (by omega) (a0 := n) (b0 := 0) (by omega) (by omega) (by omega) (by omega) hBa) rfl rfl (Nat.le_of_ble_eq_true rfl) (by omega) gC_T (q := vwCl[5]) rfl rfl dX3_part_43 (fun S1 R1 => ?_)
        obtain ⟨P1, eP1, vP1, kP1, fP1⟩ := zP_new ca P 0 ((EL n).1) (Nat.le_trans hBa.2.1 (by omega))
        rw [← eP1] at R1
        refine z_iload_n X 2 rfl rfl dX3_part_46 ?_
        refine z_iconst X (n := 2) dX3_part_47 ?_
        refine z_icmp_lt X (tgt := 59) (by omega) (by omega) dX3_part_48 (by decide) (fun hb48 => ?_) (fun hb48 => absurd hb48 (by omega))
        refine z_iload_n X 2 rfl rfl dX3_part_59 ?_
        refine z_iconst X (n := 3) dX3_part_60 ?_
        refine z_icmp_lt X (tgt := 73) (by omega) (by omega) dX3_part_61 (by decide) (fun hb61 => ?_) (fun hb61 => absurd hb61 (by omega))
        refine z_aload_n X 0 rfl rfl dX3_part_73 ?_
        refine z_aload_n X 0 rfl rfl dX3_part_74 ?_
        refine z_get X zinX3 0 (by omega) gC_T (ci := 5) rfl 5 (by decide) (ref := "TowerFields") zw125 rfl rfl dX3_part_75 ?_
        refine z_aload_n X 0 rfl rfl dX3_part_78 ?_
        refine z_get X zinX3 0 (by omega) gC_T (ci := 5) rfl 13 (by decide) (ref := "TowerFields") zw133 rfl rfl dX3_part_79 ?_
        refine z_callVi X zm_X3_keep zw295 zp3 zw293 (zFitN_of (by decide) (by decide) (by decide) (by decide)) [.ref (ad (0 + 3)), .ref (ad (8 + 3))] (c_X3_keep HU HA l R1 (q1 := 0) (q2 := 8) (by omega) (by omega) vP1 (kP1 8 _ (by omega) hone) zbL (zb_one HU HA) hm0 hroom) rfl rfl (Nat.le_of_ble_eq_true rfl) (by omega) gC_T (q := vwCl[5]) rfl rfl dX3_part_82 (fun z S9 hu9 => ?_)
        obtain ⟨hz, f9, R9, g1, g2, g3⟩ := hu9
        subst hz
        exact E S9 (by decide) (by decide) ⟨e1, by omega, by omega, hmd, _, zC_add hrec R9 hroom g1 ⟨by rw [show (98 * T.2.1 + 49 * 0).toNat = (98 * T.2.1).toNat by omega]; exact g2, by rw [show (98 * T.2.1 + 49 * 1).toNat = (98 * T.2.1).toNat + 49 by omega]; exact g3⟩ (zNf_one HU HA _) (fun j hj => by rw [fP1 j (by omega)]), Or.inl ⟨by omega, rfl⟩⟩ rfl dX3_part_85
    · exact z_throw X XX ht hl9 (ik := 102) (is := 148) (ic := 106) (cls := "java/lang/IllegalArgumentException") 8 rfl (by decide +kernel) zw359 zw14 zat_106 dX3_part_18 dX3_part_21 dX3_part_22 dX3_part_24 dX3_part_27 (by decide) (by decide) (by decide) (by decide) (by decide) (by decide) S (⟨hC0, Or.inr (Or.inr ⟨rfl, e1, by omega, by omega⟩)⟩) (rfl)
