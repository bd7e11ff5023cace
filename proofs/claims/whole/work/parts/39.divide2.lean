section
variable {U A : Type}
theorem zV_put [Lean.Grind.CommRing U] [Lean.Grind.CommRing A] {ca : A → Nat → U} (HA : mp_P ca) {P : Nat → U} {q : Nat} {a : A} (h : zV ca P q a) {n : Nat} (hn : n < 13) (v : U) {x : U} (hx : x = ca a n + v) : zV ca (va_up P (13 * q + n) x) q (a + mp_m ca v n) := by
  refine ⟨fun i hi => ?_, mp_sz_add HA h.2 (mp_sz_le HA (fun j hj => by rw [mp_m_cf HA, if_neg (by omega)]))⟩
  rw [mp_add HA, mp_m_cf HA]
  by_cases e : i = n
  · rw [e, va_up_self, hx, if_pos rfl]
  · rw [va_up_ne _ _ (by omega), h.1 i hi, if_neg e]; grind
theorem zV_uniq [Lean.Grind.CommRing U] [Lean.Grind.CommRing A] {ca : A → Nat → U} (HA : mp_P ca) {P : Nat → U} {q : Nat} {a b : A} (h : zV ca P q a) (h2 : zV ca P q b) : a = b := mp_ext HA (fun i => by
  by_cases hi : i < 13
  · rw [← h.1 i hi, h2.1 i hi]
  · rw [zV_out HA h (by omega), zV_out HA h2 (by omega)])
/-- the head of a product with the part below i + 1 -/
theorem zd_top [Lean.Grind.CommRing U] [Lean.Grind.CommRing A] {ca : A → Nat → U} (HA : mp_P ca) {f : A} {t : Nat} (hf : mp_sz ca f = t + 1) (y : A) (i : Nat) : ca (f * pa_lo ca y (i + 1)) (i + t) = ca f t * ca y i := by
  rw [pa_lo_s HA, show f * (pa_lo ca y i + mp_m ca (ca y i) i) = f * pa_lo ca y i + mp_m ca (ca y i) i * f by grind, mp_add HA, mp_m_mul HA, if_pos (by omega), show i + t - i = t by omega]
  have h0 : ca (f * pa_lo ca y i) (i + t) = 0 := by
    by_cases hi : i = 0
    · rw [hi, pa_lo_0 HA, show f * (0 : A) = 0 by grind, mp_zero HA]
    · refine mp_sz_out HA (Nat.le_trans (mp_sz_mul_le HA (m := t) (n := i - 1) (Nat.le_of_eq hf) (mp_sz_le HA (fun n hn => ?_))) (by omega))
      rw [pa_lo_cf HA, if_neg (by omega)]
  rw [h0]
  grind
theorem zd_m1 [Lean.Grind.CommRing U] {cu : U → Nat → FP} (HU : mp_P cu) (x : U) : mp_C cu (-1) * x = -x := by
  rw [mp_C_neg HU, mp_C_1 HU]; grind
theorem mp_m_neg [Lean.Grind.CommRing U] [Lean.Grind.CommRing A] {ca : A → Nat → U} (HA : mp_P ca) (v : U) (n : Nat) : mp_m ca (-v) n = -mp_m ca v n := mp_ext HA (fun j => by rw [mp_neg HA, mp_m_cf HA, mp_m_cf HA]; split <;> grind)
end
set_option maxHeartbeats 8000000 in
set_option maxRecDepth 100000 in
/-- exact division, or that there is none -/
theorem c_X0_divide {U V : Type} [Lean.Grind.CommRing U] [Lean.Grind.CommRing V] {cu : U → Nat → FP} {ca : V → Nat → U} (HU : mp_P cu) (HA : mp_P ca) (l : Launch) {D : va_G} {ad : Nat → Nat} {cI cO : ClassId} {P : Nat → U} {T : zRest} {S : zS} (hR : zR cu P T S) {q r : Nat} (hq : q < 14) (hr : r < 13) (hqr : q ≠ r) (hq13 : q ≠ 13) (hr9 : r ≠ 9) {a f : V} (hva : zV ca P q a) (hvf : zV ca P 9 f) : zMi l yX0_divide cX0_divide 7 (some .boolean) 2 D (zTy cI cO) 419 ad [.ref (ad 2), .ref (ad (q + 3)), .ref (ad (r + 3))] (gC ad cI cO S) (gC ad cI cO) (fun z u => ∃ (P9 : Nat → U), zR cu P9 T u ∧ (∀ j, (j < 13 * r ∨ 13 * r + 13 ≤ j) → (j < 169 ∨ 182 ≤ j) → j ≠ 192 → P9 j = P j) ∧ ((z = 1 ∧ f ≠ 0 ∧ ∃ y, zV ca P9 r y ∧ a = f * y) ∨ (z = 0 ∧ ∀ y, f ≠ 0 → a = f * y → False))) := by
  have hsa := hva.2
  have hsf := hvf.2
  have hxa := pA_xz HU HA hR hq hva
  refine z_goz zm_X0_divide (Nat.le_of_ble_eq_true rfl) [(0, .ref (ad 2)), (1, .ref (ad (q + 3))), (2, .ref (ad (r + 3)))] rfl (fun p e s m args below meth c A Q X E => ?_)
  refine z_aload_n X 2 rfl rfl dX0_divide_0 ?_
  refine z_callVv X zm_X2_clear zw286 zw287 zw464 (zFit_of (by decide) (by decide)) [] (c_X2_clear HU l hR (q := r) (by omega)) rfl rfl (Nat.le_of_ble_eq_true rfl) (by omega) (gC_P (by omega)) (q := vwCl[4]) rfl rfl dX0_divide_1 (fun S1 R1 => ?_)
  obtain ⟨P1, hP1⟩ : ∃ P1, P1 = pwn P r (fun _ => (0 : U)) 13 := ⟨_, rfl⟩
  rw [← hP1] at R1
  have f1 : ∀ j, (j < 13 * r ∨ 13 * r + 13 ≤ j) → P1 j = P j := fun j hj => by rw [hP1]; exact pwn_out P r _ hj
  have hvr1 : zV ca P1 r (0 : V) := ⟨fun i hi => by rw [hP1, pwn_in P r _ hi, mp_zero HA], by rw [(mp_sz_0 HA).mpr rfl]; omega⟩
  have hva1 : zV ca P1 q a := zV_eq hva (fun i hi => f1 _ (by omega))
  have hvf1 : zV ca P1 9 f := zV_eq hvf (fun i hi => f1 _ (by omega))
  refine z_aload_n X 0 rfl rfl dX0_divide_4 ?_
  refine z_get X zinX0 2 (by omega) gC_D (ci := 2) rfl 4 (by decide) (ref := "TowerFields$Divisor") zw70 rfl rfl dX0_divide_5 ?_
  refine z_aload_n X 1 rfl rfl dX0_divide_8 ?_
  refine z_callVv X zm_X2_copyOf zw433 zw434 zw432 (zFit_of (by decide) (by decide)) [.ref (ad (q + 3))] (c_X2_copyOf HU l R1 (q := 13) (q2 := q) (by omega) hq (by omega)) rfl rfl (Nat.le_of_ble_eq_true rfl) (by omega) (gC_P (by omega)) (q := vwCl[4]) rfl rfl dX0_divide_9 (fun S2 R2 => ?_)
  obtain ⟨P2, hP2⟩ : ∃ P2, P2 = pwn P1 13 (fun i => P1 (13 * q + i)) 13 := ⟨_, rfl⟩
  rw [← hP2] at R2
  have f2 : ∀ j, (j < 169 ∨ 182 ≤ j) → P2 j = P1 j := fun j hj => by rw [hP2]; exact pwn_out P1 13 _ (by omega)
  have hv13 : zV ca P2 13 a := ⟨fun i hi => by rw [hP2, pwn_in P1 13 _ hi]; exact hva1.1 i hi, hva.2⟩
  have hvr2 : zV ca P2 r (0 : V) := zV_eq hvr1 (fun i hi => f2 _ (by omega))
  have hva2 : zV ca P2 q a := zV_eq hva1 (fun i hi => f2 _ (by omega))
  have hvf2 : zV ca P2 9 f := zV_eq hvf1 (fun i hi => f2 _ (by omega))
  have hxf := pA_xz HU HA R2 (q := 9) (by omega) hvf2
  refine z_aload_n X 0 rfl rfl dX0_divide_12 ?_
  refine z_get X zinX0 2 (by omega) gC_D (ci := 2) rfl 0 (by decide) (ref := "TowerFields$Divisor") zw63 rfl rfl dX0_divide_13 ?_
  refine z_callVi X zm_X2_powerT zw414 zw415 zw465 (zFit_of (by decide) (by decide)) [] (c_X2_powerT HU HA l R2 (q := 9) (by omega) hvf2) rfl rfl (Nat.le_of_ble_eq_true rfl) (by omega) (gC_P (by omega)) (q := vwCl[4]) rfl rfl dX0_divide_16 (fun z _ hz => ?_)
  subst hz
  refine z_istore_n X [(3, .int (iZ ((mp_sz ca f : Int) - 1))), (0, .ref (ad 2)), (1, .ref (ad (q + 3))), (2, .ref (ad (r + 3)))] rfl rfl (by decide) dX0_divide_19 ?_
  refine z_aload_n X 2 rfl rfl dX0_divide_20 ?_
  refine z_callVi X zm_X2_powerX zw467 zw468 zw466 (zFit_of (by decide) (by decide)) [] (c_X2_powerX HU HA l R2 (q := q) (by omega) hva2) rfl rfl (Nat.le_of_ble_eq_true rfl) (by omega) (gC_P (by omega)) (q := vwCl[4]) rfl rfl dX0_divide_21 (fun z _ hz => ?_)
  subst hz
  refine z_aload_n X 1 rfl rfl dX0_divide_24 ?_
  refine z_get X zinX0 2 (by omega) gC_D (ci := 2) rfl 0 (by decide) (ref := "TowerFields$Divisor") zw63 rfl rfl dX0_divide_25 ?_
  refine z_callVi X zm_X2_powerX zw467 zw468 zw466 (zFit_of (by decide) (by decide)) [] (c_X2_powerX HU HA l R2 (q := 9) (by omega) hvf2) rfl rfl (Nat.le_of_ble_eq_true rfl) (by omega) (gC_P (by omega)) (q := vwCl[4]) rfl rfl dX0_divide_28 (fun z _ hz => ?_)
  subst hz
  refine z_isub X dX0_divide_31 ?_
  refine z_istore X [(4, .int (iZ (((mp_xz cu ca a : Int) - 1) - ((mp_xz cu ca f : Int) - 1)))), (3, .int (iZ ((mp_sz ca f : Int) - 1))), (0, .ref (ad 2)), (1, .ref (ad (q + 3))), (2, .ref (ad (r + 3)))] rfl (by decide) dX0_divide_32 ?_
  refine z_iload_n X 1 rfl rfl dX0_divide_34 ?_
  refine z_if_ge X (tgt := 40) (by omega) dX0_divide_35 (by decide) (fun hb35 => ?_) (fun hb35 => ?_)
  · refine z_aload_n X 3 rfl rfl dX0_divide_40 ?_
    refine z_callVi X zm_X2_powerT zw414 zw415 zw465 (zFit_of (by decide) (by decide)) [] (c_X2_powerT HU HA l R2 (q := q) (by omega) hva2) rfl rfl (Nat.le_of_ble_eq_true rfl) (by omega) (gC_P (by omega)) (q := vwCl[4]) rfl rfl dX0_divide_41 (fun z _ hz => ?_)
    subst hz
    refine z_iload_n X 1 rfl rfl dX0_divide_44 ?_
    refine z_isub X dX0_divide_45 ?_
    refine z_istore X [(5, .int (iZ (((mp_sz ca a : Int) - 1) - ((mp_sz ca f : Int) - 1)))), (4, .int (iZ (((mp_xz cu ca a : Int) - 1) - ((mp_xz cu ca f : Int) - 1)))), (3, .int (iZ ((mp_sz ca f : Int) - 1))), (0, .ref (ad 2)), (1, .ref (ad (q + 3))), (2, .ref (ad (r + 3)))] rfl (by decide) dX0_divide_46 ?_
    have hf0 : f ≠ 0 := fun z => by rw [(mp_sz_0 HA).mpr z] at hb35; omega
    obtain ⟨t, ht⟩ : ∃ t : Nat, mp_sz ca f = t + 1 := ⟨mp_sz ca f - 1, by have := mp_sz_pos HA hf0; omega⟩
    obtain ⟨F, hF⟩ : ∃ F : U, F = ca f t := ⟨_, rfl⟩
    have hF0 : F ≠ 0 := by rw [hF]; have := mp_lc_ne HA hf0; rw [mp_lc, ht] at this; exact this
    have loop : ∀ (n : Nat) (i : Int) (P3 : Nat → U) (S3 : zS) (R Y : V) (lv : List (Nat × Value)) (ks : List Nat), (i + 1).toNat = n → (-20 ≤ i ∧ i + mp_sz ca f ≤ mp_sz ca a) → zR cu P3 T S3 → zV ca P3 13 R → zV ca P3 r Y → (∀ j, (j < 13 * r ∨ 13 * r + 13 ≤ j) → (j < 169 ∨ 182 ≤ j) → j ≠ 192 → P3 j = P j) → a = f * Y + R → (∀ y, a = f * y → R = f * pa_lo ca y (i + 1).toNat) → (∀ j : Nat, j ≤ i → ca Y j = 0) → lv_pick lv ks = [(5, .int (iZ (i))), (4, .int (iZ (((mp_xz cu ca a : Int) - 1) - ((mp_xz cu ca f : Int) - 1)))), (3, .int (iZ ((mp_sz ca f : Int) - 1))), (0, .ref (ad 2)), (1, .ref (ad (q + 3))), (2, .ref (ad (r + 3)))] → Z p l e (zRm 2) s m args below meth c 7 D 419 ad A 0 0 Q 48 lv [] (gC ad cI cO S3) := by
      intro n
      induction n with
      | zero =>
        intro i P3 S3 R Y lv ks h1 h2 h3 h4 h5 h6 h7 h8 h9 hlv
        obtain ⟨h2a, h2⟩ := h2
        refine z_sub ks hlv ?_
        refine z_iload X 0 rfl dX0_divide_48 ?_
        refine z_if_lt X (tgt := 158) (by omega) dX0_divide_50 (by decide) (fun hb50 => ?_) (fun hb50 => absurd hb50 (by omega))
        refine z_aload_n X 3 rfl rfl dX0_divide_158 ?_
        refine z_get X zinX0 2 (by omega) gC_D (ci := 2) rfl 4 (by decide) (ref := "TowerFields$Divisor") zw70 rfl rfl dX0_divide_159 ?_
        refine z_callVi X zm_X2_isZero zw419 zw420 zw431 (zFit_of (by decide) (by decide)) [] (c_X2_isZero HU HA l h3 (q := 13) (by omega) h4) rfl rfl (Nat.le_of_ble_eq_true rfl) (by omega) (gC_P (by omega)) (q := vwCl[4]) rfl rfl dX0_divide_162 (fun z _ hz => ?_)
        by_cases hR0 : R = 0
        · rw [if_pos hR0] at hz
          subst hz
          exact E S3 (by omega) ⟨P3, h3, h6, Or.inl ⟨rfl, hf0, Y, h5, by rw [h7, hR0]; grind⟩⟩ rfl dX0_divide_165
        · rw [if_neg hR0] at hz
          subst hz
          refine E S3 (by omega) ⟨P3, h3, h6, Or.inr ⟨rfl, fun y _ hy => hR0 ?_⟩⟩ rfl dX0_divide_165
          rw [h8 y hy, h1, pa_lo_0 HA]
          grind
      | succ n ih =>
        intro i P3 S3 R Y lv ks h1 h2 h3 h4 h5 h6 h7 h8 h9 hlv
        obtain ⟨h2a, h2⟩ := h2
        refine z_sub ks hlv ?_
        have ha0 : a ≠ 0 := fun z => by rw [(mp_sz_0 HA).mpr z] at h2; omega
        have hvf3 : zV ca P3 9 f := zV_eq hvf (fun i hi => h6 _ (by omega) (by omega) (by omega))
        refine z_iload X 0 rfl dX0_divide_48 ?_
        refine z_if_lt X (tgt := 158) (by omega) dX0_divide_50 (by decide) (fun hb50 => absurd hb50 (by omega)) (fun hb50 => ?_)
        refine z_aload_n X 3 rfl rfl dX0_divide_53 ?_
        refine z_get X zinX0 2 (by omega) gC_D (ci := 2) rfl 4 (by decide) (ref := "TowerFields$Divisor") zw70 rfl rfl dX0_divide_54 ?_
        refine z_iload X 0 rfl dX0_divide_57 ?_
        refine z_iload_n X 2 rfl rfl dX0_divide_59 ?_
        refine z_iadd X dX0_divide_60 ?_
        refine z_callVr X zm_X2_row zw113 zw114 zw473 (zFit_of (by decide) (by decide)) [.int (iZ (i + ((mp_sz ca f : Int) - 1)))] (c_X2_row l S3 (q := 13) (by omega) (i := i + ((mp_sz ca f : Int) - 1)) (by omega)) rfl rfl (Nat.le_of_ble_eq_true rfl) (by omega) (gC_P (by omega)) (q := vwCl[4]) rfl rfl dX0_divide_61 (fun j _ hz => ?_)
        have hj := zr_row hz (by omega) (by omega)
        subst hj
        refine z_aload_n X 3 rfl rfl dX0_divide_64 ?_
        refine z_get X zinX0 2 (by omega) gC_D (ci := 2) rfl 0 (by decide) (ref := "TowerFields$Divisor") zw63 rfl rfl dX0_divide_65 ?_
        refine z_iload_n X 2 rfl rfl dX0_divide_68 ?_
        refine z_callVr X zm_X2_row zw113 zw114 zw473 (zFit_of (by decide) (by decide)) [.int (iZ ((mp_sz ca f : Int) - 1))] (c_X2_row l S3 (q := 9) (by omega) (i := (mp_sz ca f : Int) - 1) (by omega)) rfl rfl (Nat.le_of_ble_eq_true rfl) (by omega) (gC_P (by omega)) (q := vwCl[4]) rfl rfl dX0_divide_69 (fun j _ hz => ?_)
        have hj := zr_row hz (by omega) (by omega)
        subst hj
        refine z_aload_n X 3 rfl rfl dX0_divide_72 ?_
        refine z_get X zinX0 2 (by omega) gC_D (ci := 2) rfl 13 (by decide) (ref := "TowerFields$Divisor") zw79 rfl rfl dX0_divide_73 ?_
        refine z_callVv X zm_X1_divideBy zw475 zw476 zw474 (zFit_of (by decide) (by decide)) [.ref (ad (13 * 9 + ((mp_sz ca f : Int) - 1).toNat + 31)), .ref (ad (192 + 31))] (c_X1_divideBy HU l h3 (k := 13 * 13 + (i + ((mp_sz ca f : Int) - 1)).toNat) (o := 13 * 9 + ((mp_sz ca f : Int) - 1).toNat) (u := 192) (by omega) (by omega) (by omega) (by omega) (by omega) (by omega)) rfl rfl (Nat.le_of_ble_eq_true rfl) (by omega) (gC_L (by omega)) (q := vwCl[3]) rfl rfl dX0_divide_76 (fun S4 hu4 => ?_)
        obtain ⟨x, rr, d1, d2, -, R4⟩ := hu4
        rw [h4.1 _ (by omega), hvf3.1 _ (by omega), show ((mp_sz ca f : Int) - 1).toNat = t by omega, ← hF] at d1
        rw [hvf3.1 _ (by omega), show ((mp_sz ca f : Int) - 1).toNat = t by omega, ← hF] at d2
        rw [show (i + ((mp_sz ca f : Int) - 1)).toNat = i.toNat + t by omega] at d1 R4
        obtain ⟨P4, hP4⟩ : ∃ P4, P4 = va_up (va_up P3 192 x) (13 * 13 + (i.toNat + t)) rr := ⟨_, rfl⟩
        rw [← hP4] at R4
        have s192 : mp_sz cu (P4 192) ≤ 52 := R4.2.2.2.2.1 192 (by omega)
        have k192 : P4 192 = x := by rw [hP4, va_up_ne _ _ (by omega), va_up_self]
        rw [k192] at s192
        have hv4 : zV ca P4 13 (R + mp_m ca (-(x * F)) (i.toNat + t)) := by
          rw [hP4]
          exact zV_put HA (zV_up (by omega) h4) (by omega) _ (by rw [d1]; clear ih h8; grind)
        have f4 : ∀ j, j ≠ 192 → (j < 169 ∨ 182 ≤ j) → P4 j = P3 j := fun j j1 j2 => by rw [hP4, va_up_ne _ _ (by omega), va_up_ne _ _ j1]
        have hv5 : zV ca P4 r Y := zV_eq h5 (fun i hi => f4 _ (by omega) (by omega))
        have hcmp : ∀ y, a = f * y → x = ca y i.toNat := fun y hy => by
          have e1 := h8 y hy
          rw [show (i + 1).toNat = i.toNat + 1 by omega] at e1
          rw [e1, zd_top HA ht, ← hF] at d1
          exact (zd_uni HU hF0 (d1.symm.trans (by clear ih h8 e1; grind)) (d2 hF0)).1
        refine z_aload_n X 3 rfl rfl dX0_divide_79 ?_
        refine z_get X zinX0 2 (by omega) gC_D (ci := 2) rfl 13 (by decide) (ref := "TowerFields$Divisor") zw79 rfl rfl dX0_divide_80 ?_
        refine zl_degN X (by omega) ((mp_sz cu x : Int) - 1) (by have h := R4.2.2.2.1 192 (by omega); rw [k192] at h; exact h) (List.mem_of_getElem? (i := 1) rfl) dX0_divide_83 ?_
        refine z_iload X 1 rfl dX0_divide_86 ?_
        refine z_icmp_le X (tgt := 93) (by omega) (by omega) dX0_divide_88 (by decide) (fun hb88 => ?_) (fun hb88 => ?_)
        · refine z_aload_n X 5 rfl rfl dX0_divide_93 ?_
          refine z_iload X 0 rfl dX0_divide_94 ?_
          refine z_callVr X zm_X2_row zw113 zw114 zw473 (zFit_of (by decide) (by decide)) [.int (iZ (i))] (c_X2_row l S4 (q := r) (by omega) (i := i) (by omega)) rfl rfl (Nat.le_of_ble_eq_true rfl) (by omega) (gC_P (by omega)) (q := vwCl[4]) rfl rfl dX0_divide_96 (fun j _ hz => ?_)
          have hj := zr_row hz (by omega) (by omega)
          subst hj
          refine z_aload_n X 3 rfl rfl dX0_divide_99 ?_
          refine z_get X zinX0 2 (by omega) gC_D (ci := 2) rfl 13 (by decide) (ref := "TowerFields$Divisor") zw79 rfl rfl dX0_divide_100 ?_
          refine z_callVv X zm_X1_copyOf zw437 zw438 zw480 (zFit_of (by decide) (by decide)) [.ref (ad (192 + 31))] (c_X1_copyOf HU l R4 (k := 13 * r + (i).toNat) (k2 := 192) (by omega) (by omega) (by omega)) rfl rfl (Nat.le_of_ble_eq_true rfl) (by omega) (gC_L (by omega)) (q := vwCl[3]) rfl rfl dX0_divide_103 (fun S5 R5 => ?_)
          rw [k192] at R5
          obtain ⟨P5, hP5⟩ : ∃ P5, P5 = va_up P4 (13 * r + i.toNat) x := ⟨_, rfl⟩
          rw [← hP5] at R5
          have g5 : ∀ j, (j < 13 * r ∨ 13 * r + 13 ≤ j) → P5 j = P4 j := fun j hj => by rw [hP5, va_up_ne _ _ (by omega)]
          have hv6 : zV ca P5 r (Y + mp_m ca x i.toNat) := by
            rw [hP5]
            exact zV_put HA hv5 (by omega) x (by rw [h9 i.toNat (by omega)]; clear ih h8 hcmp; grind)
          have hv7 : zV ca P5 13 (R + mp_m ca (-(x * F)) (i.toNat + t)) := zV_eq hv4 (fun i hi => g5 _ (by omega))
          have k1925 : P5 192 = x := by rw [g5 _ (by omega), k192]
          have g6 : ∀ j, (j < 13 * r ∨ 13 * r + 13 ≤ j) → (j < 169 ∨ 182 ≤ j) → j ≠ 192 → P5 j = P j := fun j j1 j2 j3 => by rw [g5 j j1, f4 j j3 j2]; exact h6 j j1 j2 j3
          have hsx : ∀ j, mp_sz cu x = 0 ∨ mp_sz cu (ca f j) = 0 ∨ mp_sz cu x + mp_sz cu (ca f j) ≤ 53 := fun j => by
            have := mp_xz_row HU HA f j
            omega
          refine z_iconst X (n := 0) dX0_divide_106 ?_
          refine z_istore X [(6, .int (iZ (0))), (5, .int (iZ (i))), (4, .int (iZ (((mp_xz cu ca a : Int) - 1) - ((mp_xz cu ca f : Int) - 1)))), (3, .int (iZ ((mp_sz ca f : Int) - 1))), (0, .ref (ad 2)), (1, .ref (ad (q + 3))), (2, .ref (ad (r + 3)))] rfl (by decide) dX0_divide_107 ?_
          have hcmp0 := hcmp
          have inner : ∀ (n2 : Nat) (j : Int) (P6 : Nat → U) (S6 : zS), j + n2 = t → 0 ≤ j → zR cu P6 T S6 → zV ca P6 13 (R + mp_m ca (-(x * F)) (i.toNat + t) + mp_m ca (-x) i.toNat * pa_lo ca f j.toNat) → (∀ j, (j < 169 ∨ 182 ≤ j) → P6 j = P5 j) → Z p l e (zRm 2) s m args below meth c 7 D 419 ad A 0 0 Q 109 [(6, .int (iZ (j))), (5, .int (iZ (i))), (4, .int (iZ (((mp_xz cu ca a : Int) - 1) - ((mp_xz cu ca f : Int) - 1)))), (3, .int (iZ ((mp_sz ca f : Int) - 1))), (0, .ref (ad 2)), (1, .ref (ad (q + 3))), (2, .ref (ad (r + 3)))] [] (gC ad cI cO S6) := by
            intro n2
            induction n2 with
            | zero =>
              intro j P6 S6 g1 g2 g3 g4 g5b
              refine z_iload X 0 rfl dX0_divide_109 ?_
              refine z_iload_n X 3 rfl rfl dX0_divide_111 ?_
              refine z_icmp_ge X (tgt := 152) (by omega) (by omega) dX0_divide_112 (by decide) (fun hb112 => ?_) (fun hb112 => absurd hb112 (by omega))
              refine z_iinc X [(5, .int (iZ (i + -1))), (6, .int (iZ (j))), (4, .int (iZ (((mp_xz cu ca a : Int) - 1) - ((mp_xz cu ca f : Int) - 1)))), (3, .int (iZ ((mp_sz ca f : Int) - 1))), (0, .ref (ad 2)), (1, .ref (ad (q + 3))), (2, .ref (ad (r + 3)))] 1 rfl rfl (by decide) dX0_divide_152 ?_
              refine z_goto X (tgt := 48) dX0_divide_155 (by decide) ?_
              clear hcmp
              refine ih (i + -1) P6 S6 (R + mp_m ca (-x) i.toNat * f) (Y + mp_m ca x i.toNat) _ [0, 2, 3, 4, 5, 6] (by omega) ⟨by omega, by omega⟩ g3 ?_ (zV_eq hv6 (fun i hi => g5b _ (by omega))) (fun j j1 j2 j3 => by rw [g5b j j2]; exact g6 j j1 j2 j3) ?_ (fun y hy => ?_) (fun j hj => ?_) rfl
              · have e1 : mp_m ca (-(x * F)) (i.toNat + t) = mp_m ca (-x) i.toNat * mp_m ca F t := by
                  rw [mp_m_mulm HA, show -x * F = -(x * F) by clear ih h8; grind]
                have e2 : f = pa_lo ca f t + mp_m ca F t := by
                  rw [hF, ← pa_lo_s HA, pa_lo_z HA (by omega)]
                rw [e1, show j.toNat = t by omega] at g4
                rw [show R + mp_m ca (-x) i.toNat * f = R + mp_m ca (-x) i.toNat * mp_m ca F t + mp_m ca (-x) i.toNat * pa_lo ca f t by
                  clear ih h8 g4
                  have e3 : mp_m ca (-x) i.toNat * f = mp_m ca (-x) i.toNat * (pa_lo ca f t + mp_m ca F t) := by rw [← e2]
                  rw [e3]
                  grind]
                exact g4
              · rw [mp_m_neg HA, h7]
                clear ih h8 h7
                grind
              · have e1 := h8 y hy
                have e0 := hcmp0 y hy
                rw [show (i + 1).toNat = i.toNat + 1 by omega, pa_lo_s HA, ← e0] at e1
                rw [show (i + -1 + 1).toNat = i.toNat by omega, e1, mp_m_neg HA]
                clear ih h8 h7 e1
                grind
              · rw [mp_add HA, h9 j (by omega), mp_m_cf HA, if_neg (by omega)]
                clear ih h8
                grind
            | succ n2 ih2 =>
              intro j P6 S6 g1 g2 g3 g4 g5b
              have hvf6 : zV ca P6 9 f := zV_eq hvf (fun i hi => by rw [g5b _ (by omega)]; exact g6 _ (by omega) (by omega) (by omega))
              have k1926 : P6 192 = x := by rw [g5b _ (by omega), k1925]
              refine z_iload X 0 rfl dX0_divide_109 ?_
              refine z_iload_n X 3 rfl rfl dX0_divide_111 ?_
              refine z_icmp_ge X (tgt := 152) (by omega) (by omega) dX0_divide_112 (by decide) (fun hb112 => absurd hb112 (by omega)) (fun hb112 => ?_)
              refine z_aload_n X 4 rfl rfl dX0_divide_115 ?_
              refine z_get X zinX0 2 (by omega) gC_D (ci := 2) rfl 4 (by decide) (ref := "TowerFields$Divisor") zw70 rfl rfl dX0_divide_116 ?_
              refine z_iload X 1 rfl dX0_divide_119 ?_
              refine z_iload X 0 rfl dX0_divide_121 ?_
              refine z_iadd X dX0_divide_123 ?_
              refine z_callVr X zm_X2_row zw113 zw114 zw473 (zFit_of (by decide) (by decide)) [.int (iZ (i + j))] (c_X2_row l S6 (q := 13) (by omega) (i := i + j) (by omega)) rfl rfl (Nat.le_of_ble_eq_true rfl) (by omega) (gC_P (by omega)) (q := vwCl[4]) rfl rfl dX0_divide_124 (fun j _ hz => ?_)
              have hj := zr_row hz (by omega) (by omega)
              subst hj
              refine z_aload_n X 4 rfl rfl dX0_divide_127 ?_
              refine z_get X zinX0 2 (by omega) gC_D (ci := 2) rfl 13 (by decide) (ref := "TowerFields$Divisor") zw79 rfl rfl dX0_divide_128 ?_
              refine z_aload_n X 4 rfl rfl dX0_divide_131 ?_
              refine z_get X zinX0 2 (by omega) gC_D (ci := 2) rfl 0 (by decide) (ref := "TowerFields$Divisor") zw63 rfl rfl dX0_divide_132 ?_
              refine z_iload X 0 rfl dX0_divide_135 ?_
              refine z_callVr X zm_X2_row zw113 zw114 zw473 (zFit_of (by decide) (by decide)) [.int (iZ (j))] (c_X2_row l S6 (q := 9) (by omega) (i := j) (by omega)) rfl rfl (Nat.le_of_ble_eq_true rfl) (by omega) (gC_P (by omega)) (q := vwCl[4]) rfl rfl dX0_divide_137 (fun j _ hz => ?_)
              have hj := zr_row hz (by omega) (by omega)
              subst hj
              refine z_sipush X (n := 32002) (by decide) dX0_divide_140 ?_
              refine z_eqi (b := vz (-1 : FP)) rfl ?_
              refine z_callVv X zm_X1_plusProduct zw406 zw407 zw481 (zFit_of (by decide) (by decide)) [.ref (ad (192 + 31)), .ref (ad (13 * 9 + (j).toNat + 31)), .int (iZ (vz (-1 : FP)))] (c_X1_plusProduct HU l g3 (k := 13 * 13 + (i + j).toNat) (a := 192) (b := 13 * 9 + (j).toNat) (by omega) (by omega) (by omega) (by omega) (by omega) (-1) (by rw [k1926, hvf6.1 _ (by omega)]; exact hsx _)) rfl rfl (Nat.le_of_ble_eq_true rfl) (by omega) (gC_L (by omega)) (q := vwCl[3]) rfl rfl dX0_divide_143 (fun S7 hu7 => ?_)
              rw [k1926, hvf6.1 _ (by omega), show (i + j).toNat = i.toNat + j.toNat by omega] at hu7
              refine z_iinc X [(6, .int (iZ (j + 1))), (5, .int (iZ (i))), (4, .int (iZ (((mp_xz cu ca a : Int) - 1) - ((mp_xz cu ca f : Int) - 1)))), (3, .int (iZ ((mp_sz ca f : Int) - 1))), (0, .ref (ad 2)), (1, .ref (ad (q + 3))), (2, .ref (ad (r + 3)))] 0 rfl rfl (by decide) dX0_divide_146 ?_
              refine z_goto X (tgt := 109) dX0_divide_149 (by decide) ?_
              refine z_sub [0, 1, 2, 3, 4, 5, 6] rfl (ih2 (j + 1) _ S7 (by omega) (by omega) hu7 ?_ (fun j1 hj1 => by rw [va_up_ne _ _ (by omega)]; exact g5b j1 hj1))
              have hz9 := zV_put HA g4 (n := i.toNat + j.toNat) (by omega) (-(x * ca f j.toNat)) (x := P6 (13 * 13 + (i.toNat + j.toNat)) + mp_C cu (-1) * x * ca f j.toNat) (by
                rw [g4.1 _ (by omega), show mp_C cu (-1) * x * ca f j.toNat = -(x * ca f j.toNat) by rw [zd_m1 HU]; clear ih ih2 h8 hcmp; grind])
              rw [show (j + 1).toNat = j.toNat + 1 by omega, pa_lo_s HA]
              have e1 : mp_m ca (-(x * ca f j.toNat)) (i.toNat + j.toNat) = mp_m ca (-x) i.toNat * mp_m ca (ca f j.toNat) j.toNat := by
                rw [mp_m_mulm HA, show -x * ca f j.toNat = -(x * ca f j.toNat) by clear ih ih2 h8 hcmp; grind]
              rw [e1] at hz9
              rw [show R + mp_m ca (-(x * F)) (i.toNat + t) + mp_m ca (-x) i.toNat * (pa_lo ca f j.toNat + mp_m ca (ca f j.toNat) j.toNat) = R + mp_m ca (-(x * F)) (i.toNat + t) + mp_m ca (-x) i.toNat * pa_lo ca f j.toNat + mp_m ca (-x) i.toNat * mp_m ca (ca f j.toNat) j.toNat by clear ih ih2 h8 hcmp hz9; grind]
              exact hz9
          exact z_sub [0, 1, 2, 3, 4, 5, 6] rfl (inner t 0 P5 S5 (by omega) (by omega) R5 (by rw [show (0 : Int).toNat = 0 from rfl, pa_lo_0 HA, show R + mp_m ca (-(x * F)) (i.toNat + t) + mp_m ca (-x) i.toNat * 0 = R + mp_m ca (-(x * F)) (i.toNat + t) by clear ih h8 hcmp; grind]; exact hv7) (fun _ _ => rfl))
        · refine z_iconst X (n := 0) dX0_divide_91 ?_
          exact E S4 (by omega) ⟨P4, R4, fun j j1 j2 j3 => by rw [f4 j j3 j2]; exact h6 j j1 j2 j3, Or.inr ⟨rfl, fun y _ hy => by
            have hy0 : y ≠ 0 := fun z => ha0 (by rw [hy, z]; clear ih h8 hcmp; grind)
            have e1 := mp_xz_mul mp_FP HU HA hf0 hy0
            rw [← hy] at e1
            have e2 := mp_xz_row HU HA y i.toNat
            rw [← hcmp y hy] at e2
            omega⟩⟩ rfl dX0_divide_92
    refine loop _ _ P2 S2 a 0 _ [0, 1, 2, 3, 4, 5] rfl ⟨by omega, by omega⟩ R2 hv13 hvr2 (fun j j1 j2 j3 => by rw [f2 j j2, f1 j j1]) (by grind) (fun y hy => ?_) (fun j _ => mp_zero HA j) rfl
    rw [pa_lo_z HA]
    · exact hy
    · by_cases hy0 : y = 0
      · rw [(mp_sz_0 HA).mpr hy0]; omega
      · have := mp_sz_mul HA (mp_dom HU (mp_Fd_nz mp_FP)) hf0 hy0
        rw [← hy] at this
        omega
  · refine z_iconst X (n := 0) dX0_divide_38 ?_
    exact E S2 (by omega) ⟨P2, R2, fun j j1 j2 j3 => by rw [f2 j j2, f1 j j1], Or.inr ⟨rfl, fun y hf0 _ => hf0 ((mp_sz_0 HA).mp (by omega))⟩⟩ rfl dX0_divide_39
set_option maxHeartbeats 8000000 in
set_option maxRecDepth 100000 in
theorem c_X0_divideBoth {U V : Type} [Lean.Grind.CommRing U] [Lean.Grind.CommRing V] {cu : U → Nat → FP} {ca : V → Nat → U} (HU : mp_P cu) (HA : mp_P ca) (l : Launch) {D : va_G} {ad : Nat → Nat} {cI cO : ClassId} {P : Nat → U} {T : zRest} {S : zS} (hR : zR cu P T S) {q1 q2 : Nat} (hq1 : q1 < 9) (hq2 : q2 < 9) {a b f : V} (hva : zV ca P q1 a) (hvb : zV ca P q2 b) (hvf : zV ca P 9 f) : zMi l yX0_divideBoth cX0_divideBoth 3 (some .boolean) 3 D (zTy cI cO) 419 ad [.ref (ad 2), .ref (ad (q1 + 3)), .ref (ad (q2 + 3))] (gC ad cI cO S) (gC ad cI cO) (fun z u => ∃ (P9 : Nat → U), zR cu P9 T u ∧ (∀ j, (j < 130 ∨ (156 ≤ j ∧ j < 169) ∨ 182 ≤ j) → j ≠ 192 → P9 j = P j) ∧ ((z = 1 ∧ f ≠ 0 ∧ ∃ x y, zV ca P9 10 x ∧ zV ca P9 11 y ∧ a = f * x ∧ b = f * y) ∨ (z = 0 ∧ ∀ x y, f ≠ 0 → a = f * x → b = f * y → False))) := by
  refine z_goz zm_X0_divideBoth (Nat.le_of_ble_eq_true rfl) [(0, .ref (ad 2)), (1, .ref (ad (q1 + 3))), (2, .ref (ad (q2 + 3)))] rfl (fun p e s m args below meth c A Q X E => ?_)
  refine z_aload_n X 0 rfl rfl dX0_divideBoth_0 ?_
  refine z_aload_n X 1 rfl rfl dX0_divideBoth_1 ?_
  refine z_aload_n X 0 rfl rfl dX0_divideBoth_2 ?_
  refine z_get X zinX0 2 (by omega) gC_D (ci := 2) rfl 1 (by decide) (ref := "TowerFields$Divisor") zw65 rfl rfl dX0_divideBoth_3 ?_
  refine z_callVi X zm_X0_divide zw462 zp13 zw460 (zFit_of (by decide) (by decide)) [.ref (ad (q1 + 3)), .ref (ad (10 + 3))] (c_X0_divide HU HA l hR (q := q1) (r := 10) (by omega) (by omega) (by omega) (by omega) (by omega) hva hvf) rfl rfl (Nat.le_of_ble_eq_true rfl) (by omega) gC_D (q := vwCl[2]) rfl rfl dX0_divideBoth_6 (fun z S1 hu1 => ?_)
  obtain ⟨P1, R1, f1, hc1⟩ := hu1
  have hvb1 : zV ca P1 q2 b := zV_eq hvb (fun i hi => f1 _ (by omega) (by omega) (by omega))
  have hvf1 : zV ca P1 9 f := zV_eq hvf (fun i hi => f1 _ (by omega) (by omega) (by omega))
  have hz01 : z = 0 ∨ z = 1 := by rcases hc1 with ⟨h, -⟩ | ⟨h, -⟩ <;> omega
  refine z_if_eq X (tgt := 28) (by omega) dX0_divideBoth_9 (by decide) (fun hb9 => ?_) (fun hb9 => ?_)
  · refine z_iconst X (n := 0) dX0_divideBoth_28 ?_
    have hno := (hc1.resolve_left (fun h => by have := h.1; omega)).2
    exact E S1 (by omega) ⟨P1, R1, fun j j1 j2 => f1 j (by omega) (by omega) j2, Or.inr ⟨rfl, fun x _ h0 h1 _ => hno x h0 h1⟩⟩ rfl dX0_divideBoth_29
  · refine z_aload_n X 0 rfl rfl dX0_divideBoth_12 ?_
    refine z_aload_n X 2 rfl rfl dX0_divideBoth_13 ?_
    refine z_aload_n X 0 rfl rfl dX0_divideBoth_14 ?_
    refine z_get X zinX0 2 (by omega) gC_D (ci := 2) rfl 2 (by decide) (ref := "TowerFields$Divisor") zw67 rfl rfl dX0_divideBoth_15 ?_
    refine z_callVi X zm_X0_divide zw462 zp13 zw460 (zFit_of (by decide) (by decide)) [.ref (ad (q2 + 3)), .ref (ad (11 + 3))] (c_X0_divide HU HA l R1 (q := q2) (r := 11) (by omega) (by omega) (by omega) (by omega) (by omega) hvb1 hvf1) rfl rfl (Nat.le_of_ble_eq_true rfl) (by omega) gC_D (q := vwCl[2]) rfl rfl dX0_divideBoth_18 (fun z2 S2 hu2 => ?_)
    obtain ⟨P2, R2, f2, hc2⟩ := hu2
    have hz02 : z2 = 0 ∨ z2 = 1 := by rcases hc2 with ⟨h, -⟩ | ⟨h, -⟩ <;> omega
    refine z_if_eq X (tgt := 28) (by omega) dX0_divideBoth_21 (by decide) (fun hb21 => ?_) (fun hb21 => ?_)
    · refine z_iconst X (n := 0) dX0_divideBoth_28 ?_
      have hno := (hc2.resolve_left (fun h => by have := h.1; omega)).2
      exact E S2 (by omega) ⟨P2, R2, fun j j1 j2 => by rw [f2 j (by omega) (by omega) j2, f1 j (by omega) (by omega) j2], Or.inr ⟨rfl, fun _ y h0 _ h2 => hno y h0 h2⟩⟩ rfl dX0_divideBoth_29
    · refine z_iconst X (n := 1) dX0_divideBoth_24 ?_
      refine z_goto X (tgt := 29) dX0_divideBoth_25 (by decide) ?_
      obtain ⟨-, hf0, x, hx, ex⟩ := hc1.resolve_right (fun h => by have := h.1; omega)
      obtain ⟨-, -, y, hy, ey⟩ := hc2.resolve_right (fun h => by have := h.1; omega)
      exact E S2 (by omega) ⟨P2, R2, fun j j1 j2 => by rw [f2 j (by omega) (by omega) j2, f1 j (by omega) (by omega) j2], Or.inl ⟨rfl, hf0, x, y, zV_eq hx (fun i hi => f2 _ (by omega) (by omega) (by omega)), hy, ex, ey⟩⟩ rfl dX0_divideBoth_29
