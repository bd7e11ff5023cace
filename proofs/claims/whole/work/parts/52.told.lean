section
variable {U V : Type}
theorem zB_at [Lean.Grind.CommRing U] [Lean.Grind.CommRing V] {cu : U → Nat → FP} {ca : V → Nat → U} (HU : mp_P cu) (HA : mp_P ca) {f : Nat → FP} {n : Nat} {a : V} (h : zB cu ca f n a) (i j : Nat) : cu (ca a i) j = if i < 7 ∧ j < 7 then f (n + 7 * i + j) else 0 := by
  by_cases hi : i < 7
  · by_cases hj : j < 7
    · rw [if_pos ⟨hi, hj⟩, h.1 i j hi hj]
    · rw [if_neg (fun q => hj q.2), mp_sz_out HU (Nat.le_trans (mp_xz_row HU HA a i) (by have := h.2.2; omega))]
  · rw [if_neg (fun q => hi q.1), mp_sz_out HA (by have := h.2.1; omega), mp_zero HU]
theorem zB_eq [Lean.Grind.CommRing U] [Lean.Grind.CommRing V] {cu : U → Nat → FP} {ca : V → Nat → U} (HU : mp_P cu) (HA : mp_P ca) {f : Nat → FP} {n m : Nat} {a b : V} (h : zB cu ca f n a) (h2 : zB cu ca f m b) (e : ∀ j, j < 49 → f (n + j) = f (m + j)) : a = b := mp_ext HA (fun i => mp_ext HU (fun j => by
  rw [zB_at HU HA h, zB_at HU HA h2]
  split
  · next q => rw [Nat.add_assoc, Nat.add_assoc]; exact e _ (by omega)
  · rfl))
end
set_option maxHeartbeats 8000000 in
set_option maxRecDepth 100000 in
theorem c_X3_at {U V : Type} [Lean.Grind.CommRing U] [Lean.Grind.CommRing V] {cu : U → Nat → FP} {ca : V → Nat → U} (HU : mp_P cu) (HA : mp_P ca) (l : Launch) (hl9 : l.stackTraces = false) {D : va_G} {ad sa : Nat → Nat} {cI cO : ClassId} {EL : Int → V × V} {md kd : Int} {sA sB : U} {S : zS} (hC : zC cu ca EL md kd sA sB S) {n i j h : Int} (hn : -2147483648 ≤ n ∧ n < 2147483648) (hi : -2147483648 ≤ i ∧ i < 2147483648) (hj : -2147483648 ≤ j ∧ j < 2147483648) (hhr : -2147483648 ≤ h ∧ h < 2147483648) : zTi l yX3_at cX3_at 5 (some .int) 8 3 D (zTy cI cO) 419 ad sa [.ref (ad 0), .int (iZ n), .int (iZ i), .int (iZ j), .int (iZ h)] (gC ad cI cO S) (gC ad cI cO) (fun z u => (0 ≤ n ∧ n < md) ∧ ((0 ≤ i ∧ i ≤ 6) ∧ (0 ≤ j ∧ j ≤ 6)) ∧ (h = 0 ∨ h = 1) ∧ z = vz (cu (ca (if h = 0 then (EL n).1 else (EL n).2) i.toNat) j.toNat) ∧ zC cu ca EL md kd sA sB u) (fun E u => zC cu ca EL md kd sA sB u ∧ ((E = "java/lang/IndexOutOfBoundsException" ∧ ¬ (0 ≤ n ∧ n < md)) ∨ (E = "java/lang/IllegalArgumentException" ∧ (0 ≤ n ∧ n < md) ∧ ¬ ((0 ≤ i ∧ i ≤ 6) ∧ (0 ≤ j ∧ j ≤ 6))) ∨ (E = "java/lang/IllegalArgumentException" ∧ (0 ≤ n ∧ n < md) ∧ ((0 ≤ i ∧ i ≤ 6) ∧ (0 ≤ j ∧ j ≤ 6)) ∧ ¬ (h = 0 ∨ h = 1)))) := by
  obtain ⟨P, T, hR, hEL, hmd, hkd, h182, h183, hone, hnf, hsA, hsB, hkb⟩ := hC
  have hrec := And.intro hEL (And.intro hmd (And.intro hkd (And.intro h182 (And.intro h183 (And.intro hone (And.intro hnf (And.intro hsA (And.intro hsB hkb))))))))
  have hC0 : zC cu ca EL md kd sA sB S := ⟨P, T, hR, hEL, hmd, hkd, h182, h183, hone, hnf, hsA, hsB, hkb⟩
  have hm0 := hEL.1
  have hm1 := hEL.2.1
  have hS1 : S.2.2.2.2.1 = T.2.1 := by rw [hR.2.2.2.2.2]
  have hS2 : S.2.2.2.2.2 = T.2.2 := by rw [hR.2.2.2.2.2]
  refine z_goti zm_X3_at (Nat.le_of_ble_eq_true rfl) [(0, .ref (ad 0)), (1, .int (iZ (n))), (2, .int (iZ (i))), (3, .int (iZ (j))), (4, .int (iZ (h)))] rfl (fun p e s m args below meth c A X XX ht E => ?_)
  refine z_aload_n X 0 rfl rfl dX3_at_0 ?_
  refine z_iload_n X 1 rfl rfl dX3_at_1 ?_
  refine z_callVvT X XX ht zm_X3_requireElement zw344 zp5 zw342 (zFitX_of (by decide) (by decide) (by decide) (by decide)) [.int (iZ (n))] (c_X3_requireElement l hl9 S hn hS1 ⟨hm0, hm1⟩) rfl rfl (Nat.le_of_ble_eq_true rfl) (by omega) gC_T (q := vwCl[5]) rfl rfl dX3_at_2 (fun E _ h => ⟨S, ⟨hC0, Or.inl ⟨h.1, fun q => h.2 ⟨q.1, by omega⟩⟩⟩, rfl⟩) (by decide) (by decide) (fun u hh => ?_)
  have e1 : 0 ≤ n ∧ n < md := ⟨hh.1, by have := hh.2; omega⟩
  obtain ⟨hBa, hBb⟩ := hEL.2.2 n hh.1 hh.2
  refine z_iload_n X 2 rfl rfl dX3_at_5 ?_
  refine z_if_lt X (tgt := 25) (by omega) dX3_at_6 (by decide) (fun hb6 => ?_) (fun hb6 => ?_)
  · exact z_throw X XX ht hl9 (ik := 102) (is := 179) (ic := 106) (cls := "java/lang/IllegalArgumentException") 9 rfl (by decide +kernel) zw359 zw14 zat_106 dX3_at_25 dX3_at_28 dX3_at_29 dX3_at_31 dX3_at_34 (by decide) (by decide) (by decide) (by decide) (by decide) (by decide) S (⟨hC0, Or.inr (Or.inl ⟨rfl, e1, by omega⟩)⟩) (rfl)
  · refine z_iload_n X 2 rfl rfl dX3_at_9 ?_
    refine z_bipush X (n := 6) (by decide) dX3_at_10 ?_
    refine z_icmp_gt X (tgt := 25) (by omega) (by omega) dX3_at_12 (by decide) (fun hb12 => ?_) (fun hb12 => ?_)
    · exact z_throw X XX ht hl9 (ik := 102) (is := 179) (ic := 106) (cls := "java/lang/IllegalArgumentException") 9 rfl (by decide +kernel) zw359 zw14 zat_106 dX3_at_25 dX3_at_28 dX3_at_29 dX3_at_31 dX3_at_34 (by decide) (by decide) (by decide) (by decide) (by decide) (by decide) S (⟨hC0, Or.inr (Or.inl ⟨rfl, e1, by omega⟩)⟩) (rfl)
    · refine z_iload_n X 3 rfl rfl dX3_at_15 ?_
      refine z_if_lt X (tgt := 25) (by omega) dX3_at_16 (by decide) (fun hb16 => ?_) (fun hb16 => ?_)
      · exact z_throw X XX ht hl9 (ik := 102) (is := 179) (ic := 106) (cls := "java/lang/IllegalArgumentException") 9 rfl (by decide +kernel) zw359 zw14 zat_106 dX3_at_25 dX3_at_28 dX3_at_29 dX3_at_31 dX3_at_34 (by decide) (by decide) (by decide) (by decide) (by decide) (by decide) S (⟨hC0, Or.inr (Or.inl ⟨rfl, e1, by omega⟩)⟩) (rfl)
      · refine z_iload_n X 3 rfl rfl dX3_at_19 ?_
        refine z_bipush X (n := 6) (by decide) dX3_at_20 ?_
        refine z_icmp_le X (tgt := 35) (by omega) (by omega) dX3_at_22 (by decide) (fun hb22 => ?_) (fun hb22 => ?_)
        · refine z_iload X 4 rfl dX3_at_35 ?_
          refine z_if_eq X (tgt := 56) (by omega) dX3_at_37 (by decide) (fun hb37 => ?_) (fun hb37 => ?_)
          · refine z_aload_n X 0 rfl rfl dX3_at_56 ?_
            refine z_iload_n X 1 rfl rfl dX3_at_57 ?_
            refine z_iload X 4 rfl dX3_at_58 ?_
            refine z_iload_n X 2 rfl rfl dX3_at_60 ?_
            refine z_iload_n X 3 rfl rfl dX3_at_61 ?_
            refine z_callSi X zm_X3_place zw298 zw297 (zFitN_of (by decide) (by decide) (by decide) (by decide)) [.int (iZ (n)), .int (iZ (h)), .int (iZ (i)), .int (iZ (j))] (c_X3_place l (gC ad cI cO S) n h i j) rfl rfl (Nat.le_of_ble_eq_true rfl) dX3_at_62 (fun z _ hz => ?_)
            subst hz
            refine z_callVi X zm_X3_stored zw390 zp9 zw388 (zFitN_of (by decide) (by decide) (by decide) (by decide)) [.int (iZ (98 * n + 49 * h + 7 * i + j))] (c_X3_stored l S (z := 98 * n + 49 * h + 7 * i + j) (by omega) (by omega)) rfl rfl (Nat.le_of_ble_eq_true rfl) (by omega) gC_T (q := vwCl[5]) rfl rfl dX3_at_65 (fun z _ hz => ?_)
            rw [hR.2.2.2.2.2] at hz
            have hv : z = vz (cu (ca (if h = 0 then (EL n).1 else (EL n).2) i.toNat) j.toNat) := by
              rw [hz]
              by_cases h0 : h = 0
              · rw [if_pos h0, ← hBa.1 i.toNat j.toNat (by omega) (by omega), show (98 * n + 49 * h + 7 * i + j).toNat = (98 * n + 49 * 0).toNat + 7 * i.toNat + j.toNat by omega]
              · rw [if_neg h0, ← hBb.1 i.toNat j.toNat (by omega) (by omega), show (98 * n + 49 * h + 7 * i + j).toNat = (98 * n + 49 * 1).toNat + 7 * i.toNat + j.toNat by omega]
            exact E S (by decide) (by decide) ⟨e1, by omega, by omega, hv, hC0⟩ rfl dX3_at_68
          · refine z_iload X 4 rfl dX3_at_40 ?_
            refine z_iconst X (n := 1) dX3_at_42 ?_
            refine z_icmp_eq X (tgt := 56) (by omega) (by omega) dX3_at_43 (by decide) (fun hb43 => ?_) (fun hb43 => ?_)
            · refine z_aload_n X 0 rfl rfl dX3_at_56 ?_
              refine z_iload_n X 1 rfl rfl dX3_at_57 ?_
              refine z_iload X 4 rfl dX3_at_58 ?_
              refine z_iload_n X 2 rfl rfl dX3_at_60 ?_
              refine z_iload_n X 3 rfl rfl dX3_at_61 ?_
              refine z_callSi X zm_X3_place zw298 zw297 (zFitN_of (by decide) (by decide) (by decide) (by decide)) [.int (iZ (n)), .int (iZ (h)), .int (iZ (i)), .int (iZ (j))] (c_X3_place l (gC ad cI cO S) n h i j) rfl rfl (Nat.le_of_ble_eq_true rfl) dX3_at_62 (fun z _ hz => ?_)
              subst hz
              refine z_callVi X zm_X3_stored zw390 zp9 zw388 (zFitN_of (by decide) (by decide) (by decide) (by decide)) [.int (iZ (98 * n + 49 * h + 7 * i + j))] (c_X3_stored l S (z := 98 * n + 49 * h + 7 * i + j) (by omega) (by omega)) rfl rfl (Nat.le_of_ble_eq_true rfl) (by omega) gC_T (q := vwCl[5]) rfl rfl dX3_at_65 (fun z _ hz => ?_)
              rw [hR.2.2.2.2.2] at hz
              have hv : z = vz (cu (ca (if h = 0 then (EL n).1 else (EL n).2) i.toNat) j.toNat) := by
                rw [hz]
                by_cases h0 : h = 0
                · rw [if_pos h0, ← hBa.1 i.toNat j.toNat (by omega) (by omega), show (98 * n + 49 * h + 7 * i + j).toNat = (98 * n + 49 * 0).toNat + 7 * i.toNat + j.toNat by omega]
                · rw [if_neg h0, ← hBb.1 i.toNat j.toNat (by omega) (by omega), show (98 * n + 49 * h + 7 * i + j).toNat = (98 * n + 49 * 1).toNat + 7 * i.toNat + j.toNat by omega]
              exact E S (by decide) (by decide) ⟨e1, by omega, by omega, hv, hC0⟩ rfl dX3_at_68
            · exact z_throw X XX ht hl9 (ik := 102) (is := 181) (ic := 106) (cls := "java/lang/IllegalArgumentException") 10 rfl (by decide +kernel) zw359 zw14 zat_106 dX3_at_46 dX3_at_49 dX3_at_50 dX3_at_52 dX3_at_55 (by decide) (by decide) (by decide) (by decide) (by decide) (by decide) S (⟨hC0, Or.inr (Or.inr ⟨rfl, e1, by omega, by omega⟩)⟩) (rfl)
        · exact z_throw X XX ht hl9 (ik := 102) (is := 179) (ic := 106) (cls := "java/lang/IllegalArgumentException") 9 rfl (by decide +kernel) zw359 zw14 zat_106 dX3_at_25 dX3_at_28 dX3_at_29 dX3_at_31 dX3_at_34 (by decide) (by decide) (by decide) (by decide) (by decide) (by decide) S (⟨hC0, Or.inr (Or.inl ⟨rfl, e1, by omega⟩)⟩) (rfl)
set_option maxHeartbeats 8000000 in
set_option maxRecDepth 100000 in
theorem c_X3_same {U V : Type} [Lean.Grind.CommRing U] [Lean.Grind.CommRing V] {cu : U → Nat → FP} {ca : V → Nat → U} (HU : mp_P cu) (HA : mp_P ca) (l : Launch) (hl9 : l.stackTraces = false) {D : va_G} {ad sa : Nat → Nat} {cI cO : ClassId} {EL : Int → V × V} {md kd : Int} {sA sB : U} {S : zS} (hC : zC cu ca EL md kd sA sB S) {n1 n2 : Int} (hn1 : -2147483648 ≤ n1 ∧ n1 < 2147483648) (hn2 : -2147483648 ≤ n2 ∧ n2 < 2147483648) : zTi l yX3_same cX3_same 4 (some .boolean) 8 2 D (zTy cI cO) 419 ad sa [.ref (ad 0), .int (iZ n1), .int (iZ n2)] (gC ad cI cO S) (gC ad cI cO) (fun (z : Int) (u : zS) => (0 ≤ n1 ∧ n1 < md) ∧ (0 ≤ n2 ∧ n2 < md) ∧ z = @ite Int (EL n1 = EL n2) (Classical.propDecidable _) 1 0 ∧ zC cu ca EL md kd sA sB u) (fun (E : String) (u : zS) => zC cu ca EL md kd sA sB u ∧ E = "java/lang/IndexOutOfBoundsException" ∧ ¬ ((0 ≤ n1 ∧ n1 < md) ∧ (0 ≤ n2 ∧ n2 < md))) := by
  obtain ⟨P, T, hR, hEL, hmd, hkd, h182, h183, hone, hnf, hsA, hsB, hkb⟩ := hC
  have hrec := And.intro hEL (And.intro hmd (And.intro hkd (And.intro h182 (And.intro h183 (And.intro hone (And.intro hnf (And.intro hsA (And.intro hsB hkb))))))))
  have hC0 : zC cu ca EL md kd sA sB S := ⟨P, T, hR, hEL, hmd, hkd, h182, h183, hone, hnf, hsA, hsB, hkb⟩
  have hm0 := hEL.1
  have hm1 := hEL.2.1
  have hS1 : S.2.2.2.2.1 = T.2.1 := by rw [hR.2.2.2.2.2]
  have hS2 : S.2.2.2.2.2 = T.2.2 := by rw [hR.2.2.2.2.2]
  refine z_gotz zm_X3_same (Nat.le_of_ble_eq_true rfl) [(0, .ref (ad 0)), (1, .int (iZ (n1))), (2, .int (iZ (n2)))] rfl (fun p e s m args below meth c A X XX ht E => ?_)
  obtain ⟨Q, hQ⟩ : ∃ Q : State → Prop, Q = vx_MQ below (zQi D 419 ad (gC ad cI cO) (fun (z : Int) (u : zS) => (0 ≤ n1 ∧ n1 < md) ∧ (0 ≤ n2 ∧ n2 < md) ∧ z = @ite Int (EL n1 = EL n2) (Classical.propDecidable _) 1 0 ∧ zC cu ca EL md kd sA sB u) A) (zXQ D 419 ad (gC ad cI cO) (fun (E : String) (u : zS) => zC cu ca EL md kd sA sB u ∧ E = "java/lang/IndexOutOfBoundsException" ∧ ¬ ((0 ≤ n1 ∧ n1 < md) ∧ (0 ≤ n2 ∧ n2 < md))) A) args s 2 (6 * 2) A := ⟨_, rfl⟩
  refine z_aload_n X 0 rfl rfl dX3_same_0 ?_
  refine z_iload_n X 1 rfl rfl dX3_same_1 ?_
  refine z_callVvT X XX ht zm_X3_requireElement zw344 zp5 zw342 (zFitX_of (by decide) (by decide) (by decide) (by decide)) [.int (iZ (n1))] (c_X3_requireElement l hl9 S hn1 hS1 ⟨hm0, hm1⟩) rfl rfl (Nat.le_of_ble_eq_true rfl) (by omega) gC_T (q := vwCl[5]) rfl rfl dX3_same_2 (fun E _ h => ⟨S, ⟨hC0, h.1, fun q => h.2 ⟨q.1.1, by omega⟩⟩, rfl⟩) (by decide) (by decide) (fun u hh1 => ?_)
  refine z_aload_n X 0 rfl rfl dX3_same_5 ?_
  refine z_iload_n X 2 rfl rfl dX3_same_6 ?_
  refine z_callVvT X XX ht zm_X3_requireElement zw344 zp5 zw342 (zFitX_of (by decide) (by decide) (by decide) (by decide)) [.int (iZ (n2))] (c_X3_requireElement l hl9 S hn2 hS1 ⟨hm0, hm1⟩) rfl rfl (Nat.le_of_ble_eq_true rfl) (by omega) gC_T (q := vwCl[5]) rfl rfl dX3_same_7 (fun E _ h => ⟨S, ⟨hC0, h.1, fun q => h.2 ⟨q.2.1, by omega⟩⟩, rfl⟩) (by decide) (by decide) (fun u hh2 => ?_)
  refine z_iconst X (n := 0) dX3_same_10 ?_
  refine z_istore_n X [(3, .int (iZ (0))), (0, .ref (ad 0)), (1, .int (iZ (n1))), (2, .int (iZ (n2)))] rfl rfl (by decide) dX3_same_11 ?_
  obtain ⟨hBa, hBb⟩ := hEL.2.2 n1 hh1.1 hh1.2
  obtain ⟨hBc, hBd⟩ := hEL.2.2 n2 hh2.1 hh2.2
  have e1 : 0 ≤ n1 ∧ n1 < md := ⟨hh1.1, by have := hh1.2; omega⟩
  have e2 : 0 ≤ n2 ∧ n2 < md := ⟨hh2.1, by have := hh2.2; omega⟩
  rw [← hQ] at E ⊢
  have loop : ∀ (k : Nat) (i : Int), i + k = 98 → 0 ≤ i → (∀ j : Nat, (j : Int) < i → T.1 ((98 * n1).toNat + j) = T.1 ((98 * n2).toNat + j)) → Z p l e (zRx 8 2) s m args below meth c 4 D 419 ad A (0 + 1 + 1) (0 + 6 * 1 + 6 * 1) Q 12 [(3, .int (iZ (i))), (0, .ref (ad 0)), (1, .int (iZ (n1))), (2, .int (iZ (n2)))] [] (gC ad cI cO S) := by
    intro k
    induction k with
    | zero =>
      intro i h1 h2 h3
      refine z_iload_n X 0 rfl rfl dX3_same_12 ?_
      refine z_bipush X (n := 98) (by decide) dX3_same_13 ?_
      refine z_icmp_ge X (tgt := 53) (by omega) (by omega) dX3_same_15 (by decide) (fun hb15 => ?_) (fun hb15 => absurd hb15 (by omega))
      refine z_iconst X (n := 1) dX3_same_53 ?_
      have heq : EL n1 = EL n2 := Prod.ext (zB_eq HU HA hBa hBc (fun j hj => by rw [show (98 * n1 + 49 * 0).toNat = (98 * n1).toNat by omega, show (98 * n2 + 49 * 0).toNat = (98 * n2).toNat by omega]; exact h3 j (by omega))) (zB_eq HU HA hBb hBd (fun j hj => by rw [show (98 * n1 + 49 * 1).toNat + j = (98 * n1).toNat + (49 + j) by omega, show (98 * n2 + 49 * 1).toNat + j = (98 * n2).toNat + (49 + j) by omega]; exact h3 _ (by omega)))
      exact E S (by decide) (by decide) (by omega) ⟨e1, e2, by rw [if_pos heq], hC0⟩ rfl dX3_same_54
    | succ k ih =>
      intro i h1 h2 h3
      refine z_iload_n X 0 rfl rfl dX3_same_12 ?_
      refine z_bipush X (n := 98) (by decide) dX3_same_13 ?_
      refine z_icmp_ge X (tgt := 53) (by omega) (by omega) dX3_same_15 (by decide) (fun hb15 => absurd hb15 (by omega)) (fun hb15 => ?_)
      refine z_aload_n X 1 rfl rfl dX3_same_18 ?_
      refine z_iload_n X 2 rfl rfl dX3_same_19 ?_
      refine z_iconst X (n := 2) dX3_same_20 ?_
      refine z_imul X dX3_same_21 ?_
      refine z_bipush X (n := 49) (by decide) dX3_same_22 ?_
      refine z_imul X dX3_same_24 ?_
      refine z_iload_n X 0 rfl rfl dX3_same_25 ?_
      refine z_iadd X dX3_same_26 ?_
      refine z_callVi X zm_X3_stored zw390 zp9 zw388 (zFitN_of (by decide) (by decide) (by decide) (by decide)) [.int (iZ (((n1 * 2) * 49) + i))] (c_X3_stored l S (z := n1 * 2 * 49 + i) (by omega) (by omega)) rfl rfl (Nat.le_of_ble_eq_true rfl) (by omega) gC_T (q := vwCl[5]) rfl rfl dX3_same_27 (fun z _ hzn1 => ?_)
      rw [hR.2.2.2.2.2, show (n1 * 2 * 49 + i).toNat = (98 * n1).toNat + i.toNat by omega] at hzn1
      subst hzn1
      have an1 := vz_nn (T.1 ((98 * n1).toNat + i.toNat))
      have bn1 := vz_lt (T.1 ((98 * n1).toNat + i.toNat))
      refine z_aload_n X 1 rfl rfl dX3_same_30 ?_
      refine z_iload_n X 3 rfl rfl dX3_same_31 ?_
      refine z_iconst X (n := 2) dX3_same_32 ?_
      refine z_imul X dX3_same_33 ?_
      refine z_bipush X (n := 49) (by decide) dX3_same_34 ?_
      refine z_imul X dX3_same_36 ?_
      refine z_iload_n X 0 rfl rfl dX3_same_37 ?_
      refine z_iadd X dX3_same_38 ?_
      refine z_callVi X zm_X3_stored zw390 zp9 zw388 (zFitN_of (by decide) (by decide) (by decide) (by decide)) [.int (iZ (((n2 * 2) * 49) + i))] (c_X3_stored l S (z := n2 * 2 * 49 + i) (by omega) (by omega)) rfl rfl (Nat.le_of_ble_eq_true rfl) (by omega) gC_T (q := vwCl[5]) rfl rfl dX3_same_39 (fun z _ hzn2 => ?_)
      rw [hR.2.2.2.2.2, show (n2 * 2 * 49 + i).toNat = (98 * n2).toNat + i.toNat by omega] at hzn2
      subst hzn2
      have an2 := vz_nn (T.1 ((98 * n2).toNat + i.toNat))
      have bn2 := vz_lt (T.1 ((98 * n2).toNat + i.toNat))
      refine z_icmp_eq X (tgt := 47) (by omega) (by omega) dX3_same_42 (by decide) (fun hb42 => ?_) (fun hb42 => ?_)
      · refine z_iinc X [(3, .int (iZ (i + 1))), (0, .ref (ad 0)), (1, .int (iZ (n1))), (2, .int (iZ (n2)))] 0 rfl rfl (by decide) dX3_same_47 ?_
        refine z_goto X (tgt := 12) dX3_same_50 (by decide) ?_
        refine ih (i + 1) (by omega) (by omega) (fun j hj => ?_)
        by_cases e3 : j = i.toNat
        · rw [e3]; exact vz_inj hb42
        · exact h3 j (by omega)
      · refine z_iconst X (n := 0) dX3_same_45 ?_
        have hne : EL n1 ≠ EL n2 := fun q => hb42 (by
          have g1 : ∀ (x y : V × V), x = y → x.1 = y.1 ∧ x.2 = y.2 := fun x y h => by rw [h]; exact ⟨rfl, rfl⟩
          obtain ⟨q1, q2⟩ := g1 _ _ q
          by_cases hi : i < 49
          · have x1 := hBa.1 (i.toNat / 7) (i.toNat % 7) (by omega) (by omega)
            have x2 := hBc.1 (i.toNat / 7) (i.toNat % 7) (by omega) (by omega)
            rw [q1, ← x2, show (98 * n1 + 49 * 0).toNat + 7 * (i.toNat / 7) + i.toNat % 7 = (98 * n1).toNat + i.toNat by omega, show (98 * n2 + 49 * 0).toNat + 7 * (i.toNat / 7) + i.toNat % 7 = (98 * n2).toNat + i.toNat by omega] at x1
            rw [x1]
          · have x1 := hBb.1 ((i.toNat - 49) / 7) ((i.toNat - 49) % 7) (by omega) (by omega)
            have x2 := hBd.1 ((i.toNat - 49) / 7) ((i.toNat - 49) % 7) (by omega) (by omega)
            rw [q2, ← x2, show (98 * n1 + 49 * 1).toNat + 7 * ((i.toNat - 49) / 7) + (i.toNat - 49) % 7 = (98 * n1).toNat + i.toNat by omega, show (98 * n2 + 49 * 1).toNat + 7 * ((i.toNat - 49) / 7) + (i.toNat - 49) % 7 = (98 * n2).toNat + i.toNat by omega] at x1
            rw [x1])
        exact E S (by decide) (by decide) (by omega) ⟨e1, e2, by rw [if_neg hne], hC0⟩ rfl dX3_same_46
  exact loop 98 0 (by omega) (by omega) (fun j hj => absurd hj (by omega))
