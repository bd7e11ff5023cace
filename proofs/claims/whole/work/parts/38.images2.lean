section
variable {U A : Type}
theorem zr_row {q k : Nat} {i : Int} (h : k = 13 * q + (if i < 0 then 0 else if i < 13 then i.toNat else 12) + 31) (h0 : 0 ≤ i) (h1 : i < 13) : k = 13 * q + i.toNat + 31 := by rw [h, if_neg (by omega), if_pos h1]
theorem zd_uni [Lean.Grind.CommRing U] {cu : U → Nat → FP} (HU : mp_P cu) {q c r x : U} (hc : c ≠ 0) (e : q * c + r = x * c) (h : mp_sz cu r < mp_sz cu c) : q = x ∧ r = 0 := by
  have h1 : r = (x - q) * c := by grind
  by_cases h2 : x - q = 0
  · exact ⟨by grind, by rw [h1, h2]; grind⟩
  · have h3 := mp_sz_mul HU (mp_Fd_nz mp_FP) h2 hc
    rw [← h1] at h3
    have := mp_sz_pos HU h2
    omega
/-- the monic content, 0 of 0 -/
def mq_cz [Lean.Grind.CommRing U] [Lean.Grind.CommRing A] (cu : U → Nat → FP) (ca : A → Nat → U) (a : A) (c : U) : Prop := (c = 0 ∨ mp_lc cu c = 1) ∧ mp_D (mp_C ca c) a ∧ ∀ d, mp_D (mp_C ca d) a → mp_D d c
theorem mq_cz_ne [Lean.Grind.CommRing U] [Lean.Grind.CommRing A] {cu : U → Nat → FP} {ca : A → Nat → U} (HU : mp_P cu) (HA : mp_P ca) {a : A} {c : U} (ha : a ≠ 0) (h : mq_cz cu ca a c) : c ≠ 0 ∧ mq_ct cu ca a c := by
  have h0 : c ≠ 0 := fun e => ha (by
    obtain ⟨y, hy⟩ := h.2.1
    rw [hy, e, mp_C_0 HA]; grind)
  exact ⟨h0, h.1.resolve_left h0, h.2⟩
theorem zd_monic1 [Lean.Grind.CommRing U] {cu : U → Nat → FP} (HU : mp_P cu) {c : U} (h1 : c = 0 ∨ mp_lc cu c = 1) (h2 : mp_sz cu c = 1) : c = 1 := by
  have h3 : c ≠ 0 := fun e => by rw [(mp_sz_0 HU).mpr e] at h2; omega
  have h4 := h1.resolve_left h3
  rw [mp_lc, h2] at h4
  rw [mp_sz_1 HU (a := c) (by omega), h4, mp_C_1 HU]
theorem zd_im [Lean.Grind.CommRing U] [Lean.Grind.CommRing A] {cu : U → Nat → FP} {ca : A → Nat → U} (HU : mp_P cu) (HA : mp_P ca) (w : FP) {a : A} (ha : a ≠ 0) : mp_sz cu (mp_im cu ca w a) ≤ mp_sz ca a ∧ (mp_e cu w (mp_lc ca a) ≠ 0 → mp_sz cu (mp_im cu ca w a) = mp_sz ca a) ∧ (mp_e cu w (mp_lc ca a) = 0 → mp_sz cu (mp_im cu ca w a) < mp_sz ca a) := by
  have hp := mp_sz_pos HA ha
  refine ⟨mp_sz_le HU (fun n hn => by rw [mp_im_cf mp_FP HU HA, mp_sz_out HA hn, mp_e_0 HU (mp_Fd_nz mp_FP)]), fun h => mp_im_sz mp_FP HU HA ha h, fun h => ?_⟩
  have := mp_sz_le HU (a := mp_im cu ca w a) (M := mp_sz ca a - 1) (fun n hn => by
    rw [mp_im_cf mp_FP HU HA]
    by_cases e : n = mp_sz ca a - 1
    · rw [e]; exact h
    · rw [mp_sz_out HA (by omega), mp_e_0 HU (mp_Fd_nz mp_FP)])
  omega
theorem zd_1D {A : Type} [Lean.Grind.CommRing A] (x : A) : mp_D 1 x := ⟨x, by grind⟩
theorem vz_sb (x y : FP) : (vz x + 32003 - vz y) % 32003 = vz (x - y) := by
  have h := vz_subm x y 1
  rw [show vz 1 = 1 from rfl, Int.mul_one] at h
  rw [show vz x + 32003 - vz y = vz x + (32003 - vz y) by omega, h]
  congr 1
  grind
theorem zV_ex [Lean.Grind.CommRing U] [Lean.Grind.CommRing A] {ca : A → Nat → U} (HA : mp_P ca) (P : Nat → U) (q : Nat) : ∃ a : A, zV ca P q a := by
  refine ⟨mp_mk ca (fun i => if i < 13 then P (13 * q + i) else 0), ?_⟩
  have e : ∀ i, ca (mp_mk ca (fun i => if i < 13 then P (13 * q + i) else 0)) i = if i < 13 then P (13 * q + i) else 0 := fun i => mp_mk_cf HA 13 (fun n hn => if_neg (by omega)) i
  exact ⟨fun i hi => by rw [e, if_pos hi], mp_sz_le HA (fun n hn => by rw [e, if_neg (by omega)])⟩
theorem zV_out [Lean.Grind.CommRing U] [Lean.Grind.CommRing A] {ca : A → Nat → U} (HA : mp_P ca) {P : Nat → U} {q : Nat} {a : A} (h : zV ca P q a) {i : Nat} (hi : 13 ≤ i) : ca a i = 0 := mp_sz_out HA (Nat.le_trans h.2 hi)
end
set_option maxHeartbeats 8000000 in
set_option maxRecDepth 100000 in
theorem c_X0_contentOf {U A : Type} [Lean.Grind.CommRing U] [Lean.Grind.CommRing A] {cu : U → Nat → FP} {ca : A → Nat → U} (HU : mp_P cu) (HA : mp_P ca) (l : Launch) {D : va_G} {ad : Nat → Nat} {cI cO : ClassId} {P : Nat → U} {T : zRest} {S : zS} (hR : zR cu P T S) {q k : Nat} (hq : q < 14) {a : A} (hv : zV ca P q a) (hk : k < 194) (hk2 : 13 * q + 13 ≤ k) (hk3 : k ≠ 193) (hk4 : k ≠ 191) : zMv l yX0_contentOf cX0_contentOf 4 3 D (zTy cI cO) 419 ad [.ref (ad 2), .ref (ad (q + 3)), .ref (ad (k + 31))] (gC ad cI cO S) (gC ad cI cO) (fun u => ∃ (P9 : Nat → U) (x : U), zR cu P9 T u ∧ P9 k = x ∧ mq_cz cu ca a x ∧ ∀ j, j ≠ k → j ≠ 193 → j ≠ 191 → P9 j = P j) := by
  refine z_gov zm_X0_contentOf (Nat.le_of_ble_eq_true rfl) [(0, .ref (ad 2)), (1, .ref (ad (q + 3))), (2, .ref (ad (k + 31)))] rfl (fun p e s m args below meth c A Q X E => ?_)
  have loop : ∀ (n : Nat) (i : Int) (P1 : Nat → U) (S1 : zS), i + 1 = n → i < 13 → zR cu P1 T S1 → (∀ j, j ≠ k → j ≠ 193 → j ≠ 191 → P1 j = P j) → (P1 k = 0 ∨ mp_lc cu (P1 k) = 1) → (∀ j : Nat, i < j → j < 13 → mp_D (P1 k) (ca a j)) → (∀ d, (∀ j : Nat, i < j → j < 13 → mp_D d (ca a j)) → mp_D d (P1 k)) → Z p l e (zRm 3) s m args below meth c 4 D 419 ad A 0 0 Q 7 [(3, .int (iZ (i))), (0, .ref (ad 2)), (1, .ref (ad (q + 3))), (2, .ref (ad (k + 31)))] [] (gC ad cI cO S1) := by
    intro n
    induction n with
    | zero =>
      intro i P1 S1 h1 h2 h3 h4 h5 h6 h7
      refine z_iload_n X 0 rfl rfl dX0_contentOf_7 ?_
      refine z_if_lt X (tgt := 48) (by omega) dX0_contentOf_8 (by decide) (fun hb8 => ?_) (fun hb8 => absurd hb8 (by omega))
      exact E S1 ⟨P1, P1 k, h3, rfl, ⟨h5, (mp_C_D HA).mpr (fun n => if hn : n < 13 then h6 n (by omega) hn else by rw [zV_out HA hv (by omega)]; exact mp_D_0 _), fun d hd => h7 d (fun j _ _ => (mp_C_D HA).mp hd j)⟩, h4⟩ rfl dX0_contentOf_48
    | succ n ih =>
      intro i P1 S1 h1 h2 h3 h4 h5 h6 h7
      have hsk := h3.2.2.2.2.1 k hk
      refine z_iload_n X 0 rfl rfl dX0_contentOf_7 ?_
      refine z_if_lt X (tgt := 48) (by omega) dX0_contentOf_8 (by decide) (fun hb8 => absurd hb8 (by omega)) (fun hb8 => ?_)
      refine z_aload_n X 3 rfl rfl dX0_contentOf_11 ?_
      refine zl_degN X (by omega) ((mp_sz cu (P1 (k)) : Int) - 1) (h3.2.2.2.1 (k) (by omega)) (List.mem_of_getElem? (i := 1) rfl) dX0_contentOf_12 ?_
      refine z_if_eq X (tgt := 48) (by omega) dX0_contentOf_15 (by decide) (fun hb15 => ?_) (fun hb15 => ?_)
      · have e1 := zd_monic1 HU h5 (by omega)
        exact E S1 ⟨P1, P1 k, h3, rfl, ⟨h5, (mp_C_D HA).mpr (fun n => by rw [e1]; exact zd_1D _), fun d hd => h7 d (fun j _ _ => (mp_C_D HA).mp hd j)⟩, h4⟩ rfl dX0_contentOf_48
      · refine z_aload_n X 1 rfl rfl dX0_contentOf_18 ?_
        refine z_get X zinX0 2 (by omega) gC_D (ci := 2) rfl 14 (by decide) (ref := "TowerFields$Divisor") zw80 rfl rfl dX0_contentOf_19 ?_
        refine z_aload_n X 2 rfl rfl dX0_contentOf_22 ?_
        refine z_iload_n X 0 rfl rfl dX0_contentOf_23 ?_
        refine z_callVr X zm_X2_row zw113 zw114 zw473 (zFit_of (by decide) (by decide)) [.int (iZ (i))] (c_X2_row l S1 (q := q) (by omega) (i := i) (by omega)) rfl rfl (Nat.le_of_ble_eq_true rfl) (by omega) (gC_P (by omega)) (q := vwCl[4]) rfl rfl dX0_contentOf_24 (fun j _ hz => ?_)
        have hj := zr_row hz (by omega) (by omega)
        subst hj
        refine z_callVv X zm_X1_copyOf zw437 zw438 zw480 (zFit_of (by decide) (by decide)) [.ref (ad (13 * q + (i).toNat + 31))] (c_X1_copyOf HU l h3 (k := 193) (k2 := 13 * q + (i).toNat) (by omega) (by omega) (by omega)) rfl rfl (Nat.le_of_ble_eq_true rfl) (by omega) (gC_L (by omega)) (q := vwCl[3]) rfl rfl dX0_contentOf_27 (fun S2 hu2 => ?_)
        refine z_aload_n X 3 rfl rfl dX0_contentOf_30 ?_
        refine z_aload_n X 1 rfl rfl dX0_contentOf_31 ?_
        refine z_get X zinX0 2 (by omega) gC_D (ci := 2) rfl 14 (by decide) (ref := "TowerFields$Divisor") zw80 rfl rfl dX0_contentOf_32 ?_
        refine z_aload_n X 1 rfl rfl dX0_contentOf_35 ?_
        refine z_get X zinX0 2 (by omega) gC_D (ci := 2) rfl 12 (by decide) (ref := "TowerFields$Divisor") zw78 rfl rfl dX0_contentOf_36 ?_
        refine z_callVv X zm_X1_meet zw492 zw493 zw491 (zFit_of (by decide) (by decide)) [.ref (ad (193 + 31)), .ref (ad (191 + 31))] (c_X1_meet HU l hu2 (k := k) (o := 193) (u := 191) hk (by omega) (by omega) (by omega) (by omega) (by omega)) rfl rfl (Nat.le_of_ble_eq_true rfl) (by omega) (gC_L (by omega)) (q := vwCl[3]) rfl rfl dX0_contentOf_39 (fun S3 hu3 => ?_)
        obtain ⟨P9, h, hg, hR9, hk9, hf9⟩ := hu3
        rw [va_up_self, va_up_ne _ _ hk3, h4 (13 * q + (i).toNat) (by omega) (by omega) (by omega), hv.1 _ (by omega)] at hg
        refine z_iinc X [(3, .int (iZ (i + -1))), (0, .ref (ad 2)), (1, .ref (ad (q + 3))), (2, .ref (ad (k + 31)))] 0 rfl rfl (by decide) dX0_contentOf_42 ?_
        refine z_goto X (tgt := 7) dX0_contentOf_45 (by decide) ?_
        refine ih (i + -1) P9 S3 (by omega) (by omega) hR9 (fun j j1 j2 j3 => by rw [hf9 j j1 j2 j3, va_up_ne _ _ j2]; exact h4 j j1 j2 j3) ?_ (fun j j1 j2 => ?_) (fun d hd => ?_)
        · rw [hk9]; exact hg.2
        · rw [hk9]
          by_cases e1 : j = i.toNat
          · rw [e1]; exact hg.1.2.1
          · exact mp_D_tr hg.1.1 (h6 j (by omega) j2)
        · rw [hk9]
          exact hg.1.2.2 d (h7 d (fun j j1 j2 => hd j (by omega) j2)) (hd i.toNat (by omega) (by omega))
  refine z_aload_n X 2 rfl rfl dX0_contentOf_0 ?_
  refine z_callVv X zm_X1_clear zw290 zw291 zw490 (zFit_of (by decide) (by decide)) [] (c_X1_clear HU l hR hk) rfl rfl (Nat.le_of_ble_eq_true rfl) (by omega) (gC_L (by omega)) (q := vwCl[3]) rfl rfl dX0_contentOf_1 (fun S1 hu1 => ?_)
  refine z_bipush X (n := 12) (by decide) dX0_contentOf_4 ?_
  refine z_istore_n X [(3, .int (iZ (12))), (0, .ref (ad 2)), (1, .ref (ad (q + 3))), (2, .ref (ad (k + 31)))] rfl rfl (by decide) dX0_contentOf_6 ?_
  exact loop 13 12 _ S1 (by omega) (by omega) hu1 (fun j j1 _ _ => va_up_ne _ _ j1) (Or.inl (va_up_self _ _ _)) (fun j _ _ => by omega) (fun d _ => by rw [va_up_self]; exact mp_D_0 d)
set_option maxHeartbeats 8000000 in
set_option maxRecDepth 100000 in
theorem c_X0_leadOf {U A : Type} [Lean.Grind.CommRing U] [Lean.Grind.CommRing A] {cu : U → Nat → FP} {ca : A → Nat → U} (HU : mp_P cu) (HA : mp_P ca) (l : Launch) {D : va_G} {ad : Nat → Nat} {cI cO : ClassId} {P : Nat → U} {T : zRest} {S : zS} (hR : zR cu P T S) {q k u0 : Nat} (hq : q < 14) {a a1 : A} (hv : zV ca P q a) (ha : a ≠ 0) (hk : k < 194) (hu0 : u0 < 194) (hk5 : k ≠ 190) (hu9 : u0 ≠ 190) (hku : k ≠ u0) (hk0 : P k ≠ 0) (e1 : a = mp_C ca (P k) * a1) : zMv l yX0_leadOf cX0_leadOf 4 2 D (zTy cI cO) 419 ad [.ref (ad 2), .ref (ad (q + 3)), .ref (ad (k + 31)), .ref (ad (u0 + 31))] (gC ad cI cO S) (gC ad cI cO) (fun u => ∃ (P9 : Nat → U), zR cu P9 T u ∧ P9 u0 = mp_lc ca a1 ∧ ∀ j, j ≠ u0 → j ≠ 190 → P9 j = P j) := by
  have hs := hv.2
  have hs0 := mp_sz_pos HA ha
  refine z_gov zm_X0_leadOf (Nat.le_of_ble_eq_true rfl) [(0, .ref (ad 2)), (1, .ref (ad (q + 3))), (2, .ref (ad (k + 31))), (3, .ref (ad (u0 + 31)))] rfl (fun p e s m args below meth c A Q X E => ?_)
  refine z_aload_n X 0 rfl rfl dX0_leadOf_0 ?_
  refine z_get X zinX0 2 (by omega) gC_D (ci := 2) rfl 11 (by decide) (ref := "TowerFields$Divisor") zw77 rfl rfl dX0_leadOf_1 ?_
  refine z_aload_n X 1 rfl rfl dX0_leadOf_4 ?_
  refine z_aload_n X 1 rfl rfl dX0_leadOf_5 ?_
  refine z_callVi X zm_X2_powerT zw414 zw415 zw465 (zFit_of (by decide) (by decide)) [] (c_X2_powerT HU HA l hR hq hv) rfl rfl (Nat.le_of_ble_eq_true rfl) (by omega) (gC_P (by omega)) (q := vwCl[4]) rfl rfl dX0_leadOf_6 (fun z _ hz => ?_)
  subst hz
  refine z_callVr X zm_X2_row zw113 zw114 zw473 (zFit_of (by decide) (by decide)) [.int (iZ ((mp_sz ca a : Int) - 1))] (c_X2_row l S (q := q) (by omega) (i := (mp_sz ca a : Int) - 1) (by omega)) rfl rfl (Nat.le_of_ble_eq_true rfl) (by omega) (gC_P (by omega)) (q := vwCl[4]) rfl rfl dX0_leadOf_9 (fun j _ hz => ?_)
  have hj := zr_row hz (by omega) (by omega)
  subst hj
  refine z_callVv X zm_X1_copyOf zw437 zw438 zw480 (zFit_of (by decide) (by decide)) [.ref (ad (13 * q + ((mp_sz ca a : Int) - 1).toNat + 31))] (c_X1_copyOf HU l hR (k := 190) (k2 := 13 * q + ((mp_sz ca a : Int) - 1).toNat) (by omega) (by omega) (by omega)) rfl rfl (Nat.le_of_ble_eq_true rfl) (by omega) (gC_L (by omega)) (q := vwCl[3]) rfl rfl dX0_leadOf_12 (fun S2 hu2 => ?_)
  refine z_aload_n X 0 rfl rfl dX0_leadOf_15 ?_
  refine z_get X zinX0 2 (by omega) gC_D (ci := 2) rfl 11 (by decide) (ref := "TowerFields$Divisor") zw77 rfl rfl dX0_leadOf_16 ?_
  refine z_aload_n X 2 rfl rfl dX0_leadOf_19 ?_
  refine z_aload_n X 3 rfl rfl dX0_leadOf_20 ?_
  refine z_callVv X zm_X1_divideBy zw475 zw476 zw474 (zFit_of (by decide) (by decide)) [.ref (ad (k + 31)), .ref (ad (u0 + 31))] (c_X1_divideBy HU l hu2 (k := 190) (o := k) (u := u0) (by omega) hk hu0 (by omega) (by omega) (by omega)) rfl rfl (Nat.le_of_ble_eq_true rfl) (by omega) (gC_L (by omega)) (q := vwCl[3]) rfl rfl dX0_leadOf_21 (fun S3 hu3 => ?_)
  obtain ⟨x, r, h1, h2, -, h4⟩ := hu3
  rw [va_up_self, va_up_ne _ _ hk5, hv.1 _ (by omega), show ((mp_sz ca a : Int) - 1).toNat = mp_sz ca a - 1 by omega] at h1
  rw [va_up_ne _ _ hk5] at h2
  have hlc : ca a (mp_sz ca a - 1) = mp_lc ca a1 * P k := by
    show mp_lc ca a = _
    have ha1 : a1 ≠ 0 := fun z => ha (by rw [e1, z]; grind)
    rw [e1, (mp_lc_mul HA (mp_dom HU (mp_Fd_nz mp_FP)) (mp_C_ne HA hk0) ha1).2, show mp_lc ca (mp_C ca (P k)) = P k by rw [mp_lc, mp_sz_CE HA hk0, mp_C_cf HA]; rfl]
    grind
  obtain ⟨hx, -⟩ := zd_uni HU hk0 (h1.symm.trans hlc) (h2 hk0)
  exact E S3 ⟨_, h4, by rw [va_up_ne _ _ hu9, va_up_self]; exact hx, fun j j1 j2 => by rw [va_up_ne _ _ j2, va_up_ne _ _ j1, va_up_ne _ _ j2]⟩ rfl dX0_leadOf_24
set_option maxHeartbeats 8000000 in
set_option maxRecDepth 100000 in
theorem c_X0_findContents {U A : Type} [Lean.Grind.CommRing U] [Lean.Grind.CommRing A] {cu : U → Nat → FP} {ca : A → Nat → U} (HU : mp_P cu) (HA : mp_P ca) (l : Launch) {D : va_G} {ad : Nat → Nat} {cI cO : ClassId} {P : Nat → U} {T : zRest} {S : zS} (hR : zR cu P T S) {q1 q2 : Nat} (hq1 : q1 < 14) (hq2 : q2 < 14) {a b : A} (hva : zV ca P q1 a) (hvb : zV ca P q2 b) (ha : a ≠ 0) (hb : b ≠ 0) : zMv l yX0_findContents cX0_findContents 3 4 D (zTy cI cO) 419 ad [.ref (ad 2), .ref (ad (q1 + 3)), .ref (ad (q2 + 3))] (gC ad cI cO S) (gC ad cI cO) (fun u => ∃ (P9 : Nat → U) (c1 c2 cc ld : U) (a1 b1 : A), zR cu P9 T u ∧ mq_ct cu ca a c1 ∧ mq_ct cu ca b c2 ∧ mq_mg cu c1 c2 cc ∧ a = mp_C ca c1 * a1 ∧ b = mp_C ca c2 * b1 ∧ mq_mg cu (mp_lc ca a1) (mp_lc ca b1) ld ∧ P9 185 = c1 ∧ P9 186 = c2 ∧ P9 184 = cc ∧ P9 188 = ld ∧ ∀ j, j < 184 → P9 j = P j) := by
  refine z_gov zm_X0_findContents (Nat.le_of_ble_eq_true rfl) [(0, .ref (ad 2)), (1, .ref (ad (q1 + 3))), (2, .ref (ad (q2 + 3)))] rfl (fun p e s m args below meth c A Q X E => ?_)
  refine z_aload_n X 0 rfl rfl dX0_findContents_0 ?_
  refine z_aload_n X 1 rfl rfl dX0_findContents_1 ?_
  refine z_aload_n X 0 rfl rfl dX0_findContents_2 ?_
  refine z_get X zinX0 2 (by omega) gC_D (ci := 2) rfl 6 (by decide) (ref := "TowerFields$Divisor") zw72 rfl rfl dX0_findContents_3 ?_
  refine z_callVv X zm_X0_contentOf zw488 zp15 zw486 (zFit_of (by decide) (by decide)) [.ref (ad (q1 + 3)), .ref (ad (185 + 31))] (c_X0_contentOf HU HA l hR (q := q1) (k := 185) (by omega) hva (by omega) (by omega) (by omega) (by omega)) rfl rfl (Nat.le_of_ble_eq_true rfl) (by omega) gC_D (q := vwCl[2]) rfl rfl dX0_findContents_6 (fun S1 hu1 => ?_)
  obtain ⟨P1, c1, R1, k1, hc1, f1⟩ := hu1
  obtain ⟨c10, hc1⟩ := mq_cz_ne HU HA ha hc1
  obtain ⟨a1, ea⟩ := hc1.2.1
  have hva1 : zV ca P1 q1 a := zV_eq hva (fun i hi => f1 _ (by omega) (by omega) (by omega))
  have hvb1 : zV ca P1 q2 b := zV_eq hvb (fun i hi => f1 _ (by omega) (by omega) (by omega))
  refine z_aload_n X 0 rfl rfl dX0_findContents_9 ?_
  refine z_aload_n X 2 rfl rfl dX0_findContents_10 ?_
  refine z_aload_n X 0 rfl rfl dX0_findContents_11 ?_
  refine z_get X zinX0 2 (by omega) gC_D (ci := 2) rfl 7 (by decide) (ref := "TowerFields$Divisor") zw73 rfl rfl dX0_findContents_12 ?_
  refine z_callVv X zm_X0_contentOf zw488 zp15 zw486 (zFit_of (by decide) (by decide)) [.ref (ad (q2 + 3)), .ref (ad (186 + 31))] (c_X0_contentOf HU HA l R1 (q := q2) (k := 186) (by omega) hvb1 (by omega) (by omega) (by omega) (by omega)) rfl rfl (Nat.le_of_ble_eq_true rfl) (by omega) gC_D (q := vwCl[2]) rfl rfl dX0_findContents_15 (fun S2 hu2 => ?_)
  obtain ⟨P2, c2, R2, k2, hc2, f2⟩ := hu2
  obtain ⟨c20, hc2⟩ := mq_cz_ne HU HA hb hc2
  obtain ⟨b1, eb⟩ := hc2.2.1
  have hva2 : zV ca P2 q1 a := zV_eq hva1 (fun i hi => f2 _ (by omega) (by omega) (by omega))
  have hvb2 : zV ca P2 q2 b := zV_eq hvb1 (fun i hi => f2 _ (by omega) (by omega) (by omega))
  have k12 : P2 185 = c1 := by rw [f2 _ (by omega) (by omega) (by omega), k1]
  refine z_aload_n X 0 rfl rfl dX0_findContents_18 ?_
  refine z_aload_n X 1 rfl rfl dX0_findContents_19 ?_
  refine z_aload_n X 0 rfl rfl dX0_findContents_20 ?_
  refine z_get X zinX0 2 (by omega) gC_D (ci := 2) rfl 6 (by decide) (ref := "TowerFields$Divisor") zw72 rfl rfl dX0_findContents_21 ?_
  refine z_aload_n X 0 rfl rfl dX0_findContents_24 ?_
  refine z_get X zinX0 2 (by omega) gC_D (ci := 2) rfl 9 (by decide) (ref := "TowerFields$Divisor") zw75 rfl rfl dX0_findContents_25 ?_
  refine z_callVv X zm_X0_leadOf zw503 zp17 zw501 (zFit_of (by decide) (by decide)) [.ref (ad (q1 + 3)), .ref (ad (185 + 31)), .ref (ad (188 + 31))] (c_X0_leadOf HU HA l R2 (q := q1) (k := 185) (u0 := 188) (by omega) hva2 ha (a1 := a1) (by omega) (by omega) (by omega) (by omega) (by omega) (by rw [k12]; exact c10) (by rw [k12]; exact ea)) rfl rfl (Nat.le_of_ble_eq_true rfl) (by omega) gC_D (q := vwCl[2]) rfl rfl dX0_findContents_28 (fun S3 hu3 => ?_)
  obtain ⟨P3, R3, k3, f3⟩ := hu3
  have hvb3 : zV ca P3 q2 b := zV_eq hvb2 (fun i hi => f3 _ (by omega) (by omega))
  have k23 : P3 186 = c2 := by rw [f3 _ (by omega) (by omega), k2]
  have k13 : P3 185 = c1 := by rw [f3 _ (by omega) (by omega), k12]
  refine z_aload_n X 0 rfl rfl dX0_findContents_31 ?_
  refine z_aload_n X 2 rfl rfl dX0_findContents_32 ?_
  refine z_aload_n X 0 rfl rfl dX0_findContents_33 ?_
  refine z_get X zinX0 2 (by omega) gC_D (ci := 2) rfl 7 (by decide) (ref := "TowerFields$Divisor") zw73 rfl rfl dX0_findContents_34 ?_
  refine z_aload_n X 0 rfl rfl dX0_findContents_37 ?_
  refine z_get X zinX0 2 (by omega) gC_D (ci := 2) rfl 14 (by decide) (ref := "TowerFields$Divisor") zw80 rfl rfl dX0_findContents_38 ?_
  refine z_callVv X zm_X0_leadOf zw503 zp17 zw501 (zFit_of (by decide) (by decide)) [.ref (ad (q2 + 3)), .ref (ad (186 + 31)), .ref (ad (193 + 31))] (c_X0_leadOf HU HA l R3 (q := q2) (k := 186) (u0 := 193) (by omega) hvb3 hb (a1 := b1) (by omega) (by omega) (by omega) (by omega) (by omega) (by rw [k23]; exact c20) (by rw [k23]; exact eb)) rfl rfl (Nat.le_of_ble_eq_true rfl) (by omega) gC_D (q := vwCl[2]) rfl rfl dX0_findContents_41 (fun S4 hu4 => ?_)
  obtain ⟨P4, R4, k4, f4⟩ := hu4
  have k34 : P4 188 = mp_lc ca a1 := by rw [f4 _ (by omega) (by omega), k3]
  have k24 : P4 186 = c2 := by rw [f4 _ (by omega) (by omega), k23]
  have k14 : P4 185 = c1 := by rw [f4 _ (by omega) (by omega), k13]
  refine z_aload_n X 0 rfl rfl dX0_findContents_44 ?_
  refine z_get X zinX0 2 (by omega) gC_D (ci := 2) rfl 9 (by decide) (ref := "TowerFields$Divisor") zw75 rfl rfl dX0_findContents_45 ?_
  refine z_aload_n X 0 rfl rfl dX0_findContents_48 ?_
  refine z_get X zinX0 2 (by omega) gC_D (ci := 2) rfl 14 (by decide) (ref := "TowerFields$Divisor") zw80 rfl rfl dX0_findContents_49 ?_
  refine z_aload_n X 0 rfl rfl dX0_findContents_52 ?_
  refine z_get X zinX0 2 (by omega) gC_D (ci := 2) rfl 12 (by decide) (ref := "TowerFields$Divisor") zw78 rfl rfl dX0_findContents_53 ?_
  refine z_callVv X zm_X1_meet zw492 zw493 zw491 (zFit_of (by decide) (by decide)) [.ref (ad (193 + 31)), .ref (ad (191 + 31))] (c_X1_meet HU l R4 (k := 188) (o := 193) (u := 191) (by omega) (by omega) (by omega) (by omega) (by omega) (by omega)) rfl rfl (Nat.le_of_ble_eq_true rfl) (by omega) (gC_L (by omega)) (q := vwCl[3]) rfl rfl dX0_findContents_56 (fun S5 hu5 => ?_)
  obtain ⟨P5, ld, hl, R5, k5, f5⟩ := hu5
  rw [k34, k4] at hl
  have k25 : P5 186 = c2 := by rw [f5 _ (by omega) (by omega) (by omega), k24]
  have k15 : P5 185 = c1 := by rw [f5 _ (by omega) (by omega) (by omega), k14]
  refine z_aload_n X 0 rfl rfl dX0_findContents_59 ?_
  refine z_get X zinX0 2 (by omega) gC_D (ci := 2) rfl 5 (by decide) (ref := "TowerFields$Divisor") zw71 rfl rfl dX0_findContents_60 ?_
  refine z_aload_n X 0 rfl rfl dX0_findContents_63 ?_
  refine z_get X zinX0 2 (by omega) gC_D (ci := 2) rfl 6 (by decide) (ref := "TowerFields$Divisor") zw72 rfl rfl dX0_findContents_64 ?_
  refine z_callVv X zm_X1_copyOf zw437 zw438 zw480 (zFit_of (by decide) (by decide)) [.ref (ad (185 + 31))] (c_X1_copyOf HU l R5 (k := 184) (k2 := 185) (by omega) (by omega) (by omega)) rfl rfl (Nat.le_of_ble_eq_true rfl) (by omega) (gC_L (by omega)) (q := vwCl[3]) rfl rfl dX0_findContents_67 (fun S6 R6 => ?_)
  rw [k15] at R6
  refine z_aload_n X 0 rfl rfl dX0_findContents_70 ?_
  refine z_get X zinX0 2 (by omega) gC_D (ci := 2) rfl 14 (by decide) (ref := "TowerFields$Divisor") zw80 rfl rfl dX0_findContents_71 ?_
  refine z_aload_n X 0 rfl rfl dX0_findContents_74 ?_
  refine z_get X zinX0 2 (by omega) gC_D (ci := 2) rfl 7 (by decide) (ref := "TowerFields$Divisor") zw73 rfl rfl dX0_findContents_75 ?_
  refine z_callVv X zm_X1_copyOf zw437 zw438 zw480 (zFit_of (by decide) (by decide)) [.ref (ad (186 + 31))] (c_X1_copyOf HU l R6 (k := 193) (k2 := 186) (by omega) (by omega) (by omega)) rfl rfl (Nat.le_of_ble_eq_true rfl) (by omega) (gC_L (by omega)) (q := vwCl[3]) rfl rfl dX0_findContents_78 (fun S7 R7 => ?_)
  rw [va_up_ne _ _ (by omega : (186 : Nat) ≠ 184), k25] at R7
  refine z_aload_n X 0 rfl rfl dX0_findContents_81 ?_
  refine z_get X zinX0 2 (by omega) gC_D (ci := 2) rfl 5 (by decide) (ref := "TowerFields$Divisor") zw71 rfl rfl dX0_findContents_82 ?_
  refine z_aload_n X 0 rfl rfl dX0_findContents_85 ?_
  refine z_get X zinX0 2 (by omega) gC_D (ci := 2) rfl 14 (by decide) (ref := "TowerFields$Divisor") zw80 rfl rfl dX0_findContents_86 ?_
  refine z_aload_n X 0 rfl rfl dX0_findContents_89 ?_
  refine z_get X zinX0 2 (by omega) gC_D (ci := 2) rfl 12 (by decide) (ref := "TowerFields$Divisor") zw78 rfl rfl dX0_findContents_90 ?_
  refine z_callVv X zm_X1_meet zw492 zw493 zw491 (zFit_of (by decide) (by decide)) [.ref (ad (193 + 31)), .ref (ad (191 + 31))] (c_X1_meet HU l R7 (k := 184) (o := 193) (u := 191) (by omega) (by omega) (by omega) (by omega) (by omega) (by omega)) rfl rfl (Nat.le_of_ble_eq_true rfl) (by omega) (gC_L (by omega)) (q := vwCl[3]) rfl rfl dX0_findContents_93 (fun S8 hu8 => ?_)
  obtain ⟨P8, cc, hc, R8, k8, f8⟩ := hu8
  rw [va_up_ne _ _ (by omega : (184 : Nat) ≠ 193), va_up_self, va_up_self] at hc
  have g8 : ∀ j, j ≠ 184 → j ≠ 193 → j ≠ 191 → P8 j = P5 j := fun j j1 j2 j3 => by rw [f8 j j1 j2 j3, va_up_ne _ _ j2, va_up_ne _ _ j1]
  exact E S8 ⟨P8, c1, c2, cc, ld, a1, b1, R8, hc1, hc2, hc, ea, eb, hl, by rw [g8 _ (by omega) (by omega) (by omega), k15], by rw [g8 _ (by omega) (by omega) (by omega), k25], k8, by rw [g8 _ (by omega) (by omega) (by omega), k5], fun j hj => by rw [g8 j (by omega) (by omega) (by omega), f5 j (by omega) (by omega) (by omega), f4 j (by omega) (by omega), f3 j (by omega) (by omega), f2 j (by omega) (by omega) (by omega), f1 j (by omega) (by omega) (by omega)]⟩ rfl dX0_findContents_96
set_option maxHeartbeats 8000000 in
set_option maxRecDepth 100000 in
theorem c_X0_imageOf {U A : Type} [Lean.Grind.CommRing U] [Lean.Grind.CommRing A] {cu : U → Nat → FP} {ca : A → Nat → U} (HU : mp_P cu) (HA : mp_P ca) (l : Launch) {D : va_G} {ad : Nat → Nat} {cI cO : ClassId} {P : Nat → U} {T : zRest} {S : zS} (hR : zR cu P T S) {q k : Nat} (hq : q < 14) {a : A} (hv : zV ca P q a) (hk : k < 194) (hk2 : 13 * q + 13 ≤ k) (w : FP) : zMv l yX0_imageOf cX0_imageOf 4 2 D (zTy cI cO) 419 ad [.ref (ad (q + 3)), .int (iZ (vz w)), .ref (ad (k + 31))] (gC ad cI cO S) (gC ad cI cO) (fun u => zR cu (va_up P k (mp_im cu ca w a)) T u) := by
  have hs := hv.2
  refine z_gov zm_X0_imageOf (Nat.le_of_ble_eq_true rfl) [(0, .ref (ad (q + 3))), (1, .int (iZ (vz w))), (2, .ref (ad (k + 31)))] rfl (fun p e s m args below meth c A Q X E => ?_)
  have loop : ∀ (n : Nat) (i : Int) (P1 : Nat → U) (S1 : zS), i + 1 = n → i < mp_sz ca a → zR cu P1 T S1 → (∀ j, j ≠ k → P1 j = P j) → (∀ j : Nat, cu (P1 k) j = if i < j then mp_e cu w (ca a j) else 0) → Z p l e (zRm 2) s m args below meth c 4 D 419 ad A 0 0 Q 9 [(3, .int (iZ (i))), (0, .ref (ad (q + 3))), (1, .int (iZ (vz w))), (2, .ref (ad (k + 31)))] [] (gC ad cI cO S1) := by
    intro n
    induction n with
    | zero =>
      intro i P1 S1 h1 h2 h3 h4 h5
      refine z_iload_n X 0 rfl rfl dX0_imageOf_9 ?_
      refine z_if_lt X (tgt := 33) (by omega) dX0_imageOf_10 (by decide) (fun hb10 => ?_) (fun hb10 => absurd hb10 (by omega))
      have e1 : P1 k = mp_im cu ca w a := mp_ext HU (fun j => by rw [h5 j, if_pos (by omega), mp_im_cf mp_FP HU HA])
      exact E S1 (zR_cong h3 (fun j hj => by
        by_cases e : j = k
        · rw [e, va_up_self, e1]
        · rw [va_up_ne _ _ e, h4 j e])) rfl dX0_imageOf_33
    | succ n ih =>
      intro i P1 S1 h1 h2 h3 h4 h5
      refine z_iload_n X 0 rfl rfl dX0_imageOf_9 ?_
      refine z_if_lt X (tgt := 33) (by omega) dX0_imageOf_10 (by decide) (fun hb10 => absurd hb10 (by omega)) (fun hb10 => ?_)
      refine z_aload_n X 3 rfl rfl dX0_imageOf_13 ?_
      refine z_iload_n X 0 rfl rfl dX0_imageOf_14 ?_
      refine z_aload_n X 1 rfl rfl dX0_imageOf_15 ?_
      refine z_iload_n X 0 rfl rfl dX0_imageOf_16 ?_
      refine z_callVr X zm_X2_row zw113 zw114 zw473 (zFit_of (by decide) (by decide)) [.int (iZ (i))] (c_X2_row l S1 (q := q) (by omega) (i := i) (by omega)) rfl rfl (Nat.le_of_ble_eq_true rfl) (by omega) (gC_P (by omega)) (q := vwCl[4]) rfl rfl dX0_imageOf_17 (fun j _ hz => ?_)
      have hj := zr_row hz (by omega) (by omega)
      subst hj
      refine z_iload_n X 2 rfl rfl dX0_imageOf_20 ?_
      refine z_callVi X zm_X1_valueAt zw516 zw517 zw515 (zFit_of (by decide) (by decide)) [.int (iZ (vz w))] (c_X1_valueAt HU l h3 (k := 13 * q + (i).toNat) (by omega) w) rfl rfl (Nat.le_of_ble_eq_true rfl) (by omega) (gC_L (by omega)) (q := vwCl[3]) rfl rfl dX0_imageOf_21 (fun z _ hz2 => ?_)
      rw [h4 _ (by omega), hv.1 _ (by omega)] at hz2
      subst hz2
      refine z_callVv X zm_X1_put zw117 zw118 zw519 (zFit_of (by decide) (by decide)) [.int (iZ (i)), .int (iZ (vz (mp_e cu w (ca a i.toNat))))] (c_X1_put HU l h3 hk (i := i) (by omega) (by omega) (mp_e cu w (ca a i.toNat))) rfl rfl (Nat.le_of_ble_eq_true rfl) (by omega) (gC_L (by omega)) (q := vwCl[3]) rfl rfl dX0_imageOf_24 (fun S2 hu2 => ?_)
      refine z_iinc X [(3, .int (iZ (i + -1))), (0, .ref (ad (q + 3))), (1, .int (iZ (vz w))), (2, .ref (ad (k + 31)))] 0 rfl rfl (by decide) dX0_imageOf_27 ?_
      refine z_goto X (tgt := 9) dX0_imageOf_30 (by decide) ?_
      refine ih (i + -1) _ S2 (by omega) (by omega) hu2 (fun j j1 => by rw [va_up_ne _ _ j1]; exact h4 j j1) (fun j => ?_)
      rw [va_up_self, pu_cf HU]
      by_cases e1 : j = i.toNat
      · rw [if_pos e1, if_pos (by omega), e1]
      · rw [if_neg e1, h5 j]
        by_cases e2 : i < j
        · rw [if_pos e2, if_pos (by omega)]
        · rw [if_neg e2, if_neg (by omega)]
  refine z_aload_n X 2 rfl rfl dX0_imageOf_0 ?_
  refine z_callVv X zm_X1_clear zw290 zw291 zw490 (zFit_of (by decide) (by decide)) [] (c_X1_clear HU l hR hk) rfl rfl (Nat.le_of_ble_eq_true rfl) (by omega) (gC_L (by omega)) (q := vwCl[3]) rfl rfl dX0_imageOf_1 (fun S1 hu1 => ?_)
  have hv1 : zV ca (va_up P k (0 : U)) q a := zV_up (by omega) hv
  refine z_aload_n X 0 rfl rfl dX0_imageOf_4 ?_
  refine z_callVi X zm_X2_powerT zw414 zw415 zw465 (zFit_of (by decide) (by decide)) [] (c_X2_powerT HU HA l hu1 hq hv1) rfl rfl (Nat.le_of_ble_eq_true rfl) (by omega) (gC_P (by omega)) (q := vwCl[4]) rfl rfl dX0_imageOf_5 (fun z _ hz => ?_)
  subst hz
  refine z_istore_n X [(3, .int (iZ ((mp_sz ca a : Int) - 1))), (0, .ref (ad (q + 3))), (1, .int (iZ (vz w))), (2, .ref (ad (k + 31)))] rfl rfl (by decide) dX0_imageOf_8 ?_
  refine loop (mp_sz ca a) ((mp_sz ca a : Int) - 1) _ S1 (by omega) (by omega) hu1 (fun j j1 => va_up_ne _ _ j1) (fun j => ?_)
  rw [va_up_self, mp_zero HU]
  split
  · rw [mp_sz_out HA (by omega), mp_e_0 HU (mp_Fd_nz mp_FP)]
  · rfl
set_option maxHeartbeats 8000000 in
set_option maxRecDepth 100000 in
theorem c_X0_findImage {U A : Type} [Lean.Grind.CommRing U] [Lean.Grind.CommRing A] {cu : U → Nat → FP} {ca : A → Nat → U} (HU : mp_P cu) (HA : mp_P ca) (l : Launch) {D : va_G} {ad : Nat → Nat} {cI cO : ClassId} {P : Nat → U} {T : zRest} {S : zS} (hR : zR cu P T S) {q1 q2 : Nat} (hq1 : q1 < 14) (hq2 : q2 < 14) {a b : A} (hva : zV ca P q1 a) (hvb : zV ca P q2 b) (ha : a ≠ 0) (hb : b ≠ 0) (w : FP) : zMi l yX0_findImage cX0_findImage 4 (some .boolean) 3 D (zTy cI cO) 419 ad [.ref (ad 2), .ref (ad (q1 + 3)), .ref (ad (q2 + 3)), .int (iZ (vz w))] (gC ad cI cO S) (gC ad cI cO) (fun z u => ∃ (P9 : Nat → U), zR cu P9 T u ∧ (∀ j, j ≠ 190 → j ≠ 193 → j ≠ 191 → P9 j = P j) ∧ ((z = 1 ∧ mp_e cu w (mp_lc ca a) ≠ 0 ∧ mp_e cu w (mp_lc ca b) ≠ 0 ∧ mq_mg cu (mp_im cu ca w a) (mp_im cu ca w b) (P9 190)) ∨ (z = 0 ∧ ¬ (mp_e cu w (mp_lc ca a) ≠ 0 ∧ mp_e cu w (mp_lc ca b) ≠ 0)))) := by
  have hsa := hva.2
  have hsb := hvb.2
  obtain ⟨ia1, ia2, ia3⟩ := zd_im HU HA w ha
  obtain ⟨ib1, ib2, ib3⟩ := zd_im HU HA w hb
  refine z_goz zm_X0_findImage (Nat.le_of_ble_eq_true rfl) [(0, .ref (ad 2)), (1, .ref (ad (q1 + 3))), (2, .ref (ad (q2 + 3))), (3, .int (iZ (vz w)))] rfl (fun p e s m args below meth c A Q X E => ?_)
  refine z_aload_n X 1 rfl rfl dX0_findImage_0 ?_
  refine z_iload_n X 3 rfl rfl dX0_findImage_1 ?_
  refine z_aload_n X 0 rfl rfl dX0_findImage_2 ?_
  refine z_get X zinX0 2 (by omega) gC_D (ci := 2) rfl 11 (by decide) (ref := "TowerFields$Divisor") zw77 rfl rfl dX0_findImage_3 ?_
  refine z_callSv X zm_X0_imageOf zw513 zw512 (zFit_of (by decide) (by decide)) [.ref (ad (q1 + 3)), .int (iZ (vz w)), .ref (ad (190 + 31))] (c_X0_imageOf HU HA l hR (q := q1) (k := 190) (by omega) hva (by omega) (by omega) w) rfl rfl (Nat.le_of_ble_eq_true rfl) dX0_findImage_6 (fun S1 R1 => ?_)
  have hvb1 : zV ca (va_up P 190 (mp_im cu ca w a)) q2 b := zV_up (by omega) hvb
  refine z_aload_n X 2 rfl rfl dX0_findImage_9 ?_
  refine z_iload_n X 3 rfl rfl dX0_findImage_10 ?_
  refine z_aload_n X 0 rfl rfl dX0_findImage_11 ?_
  refine z_get X zinX0 2 (by omega) gC_D (ci := 2) rfl 14 (by decide) (ref := "TowerFields$Divisor") zw80 rfl rfl dX0_findImage_12 ?_
  refine z_callSv X zm_X0_imageOf zw513 zw512 (zFit_of (by decide) (by decide)) [.ref (ad (q2 + 3)), .int (iZ (vz w)), .ref (ad (193 + 31))] (c_X0_imageOf HU HA l R1 (q := q2) (k := 193) (by omega) hvb1 (by omega) (by omega) w) rfl rfl (Nat.le_of_ble_eq_true rfl) dX0_findImage_15 (fun S2 R2 => ?_)
  have hva2 : zV ca (va_up (va_up P 190 (mp_im cu ca w a)) 193 (mp_im cu ca w b)) q1 a := zV_up (by omega) (zV_up (by omega) hva)
  have hvb2 : zV ca (va_up (va_up P 190 (mp_im cu ca w a)) 193 (mp_im cu ca w b)) q2 b := zV_up (by omega) hvb1
  refine z_aload_n X 0 rfl rfl dX0_findImage_18 ?_
  refine z_get X zinX0 2 (by omega) gC_D (ci := 2) rfl 11 (by decide) (ref := "TowerFields$Divisor") zw77 rfl rfl dX0_findImage_19 ?_
  refine zl_degN X (by omega) ((mp_sz cu (mp_im cu ca w a) : Int) - 1) (by have h := R2.2.2.2.1 190 (by omega); rw [va_up_ne _ _ (by omega), va_up_self] at h; exact h) (List.mem_of_getElem? (i := 1) rfl) dX0_findImage_22 ?_
  refine z_aload_n X 1 rfl rfl dX0_findImage_25 ?_
  refine z_callVi X zm_X2_powerT zw414 zw415 zw465 (zFit_of (by decide) (by decide)) [] (c_X2_powerT HU HA l R2 hq1 hva2) rfl rfl (Nat.le_of_ble_eq_true rfl) (by omega) (gC_P (by omega)) (q := vwCl[4]) rfl rfl dX0_findImage_26 (fun z _ hz => ?_)
  subst hz
  refine z_icmp_lt X (tgt := 46) (by omega) (by omega) dX0_findImage_29 (by decide) (fun hb29 => ?_) (fun hb29 => ?_)
  · refine z_iconst X (n := 0) dX0_findImage_46 ?_
    exact E S2 (by omega) ⟨_, R2, fun j j1 j2 j3 => by rw [va_up_ne _ _ j2, va_up_ne _ _ j1], Or.inr ⟨rfl, fun h => by have := ia2 h.1; omega⟩⟩ rfl dX0_findImage_47
  · refine z_aload_n X 0 rfl rfl dX0_findImage_32 ?_
    refine z_get X zinX0 2 (by omega) gC_D (ci := 2) rfl 14 (by decide) (ref := "TowerFields$Divisor") zw80 rfl rfl dX0_findImage_33 ?_
    refine zl_degN X (by omega) ((mp_sz cu (mp_im cu ca w b) : Int) - 1) (by have h := R2.2.2.2.1 193 (by omega); rw [va_up_self] at h; exact h) (List.mem_of_getElem? (i := 1) rfl) dX0_findImage_36 ?_
    refine z_aload_n X 2 rfl rfl dX0_findImage_39 ?_
    refine z_callVi X zm_X2_powerT zw414 zw415 zw465 (zFit_of (by decide) (by decide)) [] (c_X2_powerT HU HA l R2 hq2 hvb2) rfl rfl (Nat.le_of_ble_eq_true rfl) (by omega) (gC_P (by omega)) (q := vwCl[4]) rfl rfl dX0_findImage_40 (fun z _ hz => ?_)
    subst hz
    refine z_icmp_ge X (tgt := 48) (by omega) (by omega) dX0_findImage_43 (by decide) (fun hb43 => ?_) (fun hb43 => ?_)
    · refine z_aload_n X 0 rfl rfl dX0_findImage_48 ?_
      refine z_get X zinX0 2 (by omega) gC_D (ci := 2) rfl 11 (by decide) (ref := "TowerFields$Divisor") zw77 rfl rfl dX0_findImage_49 ?_
      refine z_aload_n X 0 rfl rfl dX0_findImage_52 ?_
      refine z_get X zinX0 2 (by omega) gC_D (ci := 2) rfl 14 (by decide) (ref := "TowerFields$Divisor") zw80 rfl rfl dX0_findImage_53 ?_
      refine z_aload_n X 0 rfl rfl dX0_findImage_56 ?_
      refine z_get X zinX0 2 (by omega) gC_D (ci := 2) rfl 12 (by decide) (ref := "TowerFields$Divisor") zw78 rfl rfl dX0_findImage_57 ?_
      refine z_callVv X zm_X1_meet zw492 zw493 zw491 (zFit_of (by decide) (by decide)) [.ref (ad (193 + 31)), .ref (ad (191 + 31))] (c_X1_meet HU l R2 (k := 190) (o := 193) (u := 191) (by omega) (by omega) (by omega) (by omega) (by omega) (by omega)) rfl rfl (Nat.le_of_ble_eq_true rfl) (by omega) (gC_L (by omega)) (q := vwCl[3]) rfl rfl dX0_findImage_60 (fun S3 hu3 => ?_)
      obtain ⟨P3, h, hg, R3, k3, f3⟩ := hu3
      rw [va_up_ne _ _ (by omega : (190 : Nat) ≠ 193), va_up_self, va_up_self] at hg
      refine z_iconst X (n := 1) dX0_findImage_63 ?_
      exact E S3 (by omega) ⟨P3, R3, fun j j1 j2 j3 => by rw [f3 j j1 j2 j3, va_up_ne _ _ j2, va_up_ne _ _ j1], Or.inl ⟨rfl, fun q => by have := ia3 q; omega, fun q => by have := ib3 q; omega, by rw [k3]; exact hg⟩⟩ rfl dX0_findImage_64
    · refine z_iconst X (n := 0) dX0_findImage_46 ?_
      exact E S2 (by omega) ⟨_, R2, fun j j1 j2 j3 => by rw [va_up_ne _ _ j2, va_up_ne _ _ j1], Or.inr ⟨rfl, fun h => by have := ib2 h.2; omega⟩⟩ rfl dX0_findImage_47
set_option maxHeartbeats 8000000 in
set_option maxRecDepth 100000 in
theorem c_X0_takeIn {U A : Type} [Lean.Grind.CommRing U] [Lean.Grind.CommRing A] {cu : U → Nat → FP} {ca : A → Nat → U} (HU : mp_P cu) (HA : mp_P ca) (l : Launch) {D : va_G} {ad : Nat → Nat} {cI cO : ClassId} {P : Nat → U} {T : zRest} {S : zS} (hR : zR cu P T S) {f : A} (hv : zV ca P 12 f) (hsk : mp_sz cu (P 190) ≤ 13) (hn : mp_sz cu (P 189) ≤ 51) (w : FP) : zMi l yX0_takeIn cX0_takeIn 8 (some .boolean) 2 D (zTy cI cO) 419 ad [.ref (ad 2), .int (iZ (vz w))] (gC ad cI cO S) (gC ad cI cO) (fun z u => (z = 0 ∨ z = 1) ∧ ∃ (P9 : Nat → U) (f9 : A), zR cu P9 T u ∧ (∀ j, j < 156 ∨ 169 ≤ j → j ≠ 189 → P9 j = P j) ∧ zV ca P9 12 f9 ∧ P9 189 = mp_X cu w * P 189 ∧ ∀ j, ca f9 j = (if j < mp_sz cu (P 190) then ca f j + mp_m cu ((mp_e cu w (P 188) * cu (P 190) j - mp_e cu w (ca f j)) * mf_inv (mp_e cu w (P 189))) 0 * P 189 else ca f j)) := by
  refine z_goz zm_X0_takeIn (Nat.le_of_ble_eq_true rfl) [(0, .ref (ad 2)), (1, .int (iZ (vz w)))] rfl (fun p e s m args below meth c A Q X E => ?_)
  obtain ⟨y, hy⟩ : ∃ y : FP, y = mf_inv (mp_e cu w (P 189)) := ⟨_, rfl⟩
  obtain ⟨sc, hsc⟩ : ∃ x : FP, x = mp_e cu w (P 188) := ⟨_, rfl⟩
  have loop : ∀ (n : Nat) (i t : Int) (P1 : Nat → U) (S1 : zS) (lv : List (Nat × Value)) (ks : List Nat), i + n = 13 → 0 ≤ i → i ≤ mp_sz cu (P 190) → (t = 0 ∨ t = 1) → zR cu P1 T S1 → (∀ j, j < 156 ∨ 169 ≤ j → P1 j = P j) → (∀ j : Nat, j < 13 → P1 (156 + j) = if j < i then (if j < mp_sz cu (P 190) then ca f j + mp_m cu ((mp_e cu w (P 188) * cu (P 190) j - mp_e cu w (ca f j)) * mf_inv (mp_e cu w (P 189))) 0 * P 189 else ca f j) else ca f j) → lv_pick lv ks = [(5, .int (iZ (i))), (4, .int (iZ (t))), (3, .int (iZ (vz y))), (2, .int (iZ (vz sc))), (0, .ref (ad 2)), (1, .int (iZ (vz w)))] → Z p l e (zRm 2) s m args below meth c 8 D 419 ad A 0 0 Q 27 lv [] (gC ad cI cO S1) := by
    intro n
    induction n with
    | zero =>
      intro i t P1 S1 lv ks h1 h2 h2b h3 h4 h5 h6 hlv
      refine z_sub ks hlv ?_
      refine z_iload X 0 rfl dX0_takeIn_27 ?_
      refine z_aload_n X 4 rfl rfl dX0_takeIn_29 ?_
      refine z_get X zinX0 2 (by omega) gC_D (ci := 2) rfl 11 (by decide) (ref := "TowerFields$Divisor") zw77 rfl rfl dX0_takeIn_30 ?_
      refine zl_degN X (by omega) ((mp_sz cu (P 190) : Int) - 1) (by have h := h4.2.2.2.1 190 (by omega); rw [h5 190 (by omega)] at h; exact h) (List.mem_of_getElem? (i := 1) rfl) dX0_takeIn_33 ?_
      refine z_icmp_gt X (tgt := 128) (by omega) (by omega) dX0_takeIn_36 (by decide) (fun hb36 => ?_) (fun hb36 => ?_)
      · refine z_aload_n X 4 rfl rfl dX0_takeIn_128 ?_
        refine z_get X zinX0 2 (by omega) gC_D (ci := 2) rfl 10 (by decide) (ref := "TowerFields$Divisor") zw76 rfl rfl dX0_takeIn_129 ?_
        refine z_iload_n X 5 rfl rfl dX0_takeIn_132 ?_
        refine z_callVv X zm_X1_timesRoot zw527 zw528 zw526 (zFit_of (by decide) (by decide)) [.int (iZ (vz w))] (c_X1_timesRoot HU l h4 (k := 189) (by omega) w (by rw [h5 189 (by omega)]; exact hn)) rfl rfl (Nat.le_of_ble_eq_true rfl) (by omega) (gC_L (by omega)) (q := vwCl[3]) rfl rfl dX0_takeIn_133 (fun S9 R9 => ?_)
        rw [h5 189 (by omega)] at R9
        refine z_iload X 1 rfl dX0_takeIn_136 ?_
        obtain ⟨f9, hf9⟩ := zV_ex HA P1 12
        refine E S9 h3 ⟨h3, _, f9, R9, fun j j1 j2 => by rw [va_up_ne _ _ j2]; exact h5 j j1, zV_up (by omega) hf9, va_up_self _ _ _, fun j => ?_⟩ rfl dX0_takeIn_138
        by_cases hj : j < 13
        · rw [← hf9.1 j hj, h6 j hj]
          by_cases hji : j < i
          · rw [if_pos hji]
          · rw [if_neg hji, if_neg (by omega)]
        · rw [zV_out HA hf9 (by omega), zV_out HA hv (by omega), if_neg (by omega)]
      · refine z_iload X 0 rfl dX0_takeIn_39 ?_
        refine z_bipush X (n := 13) (by decide) dX0_takeIn_41 ?_
        refine z_icmp_ge X (tgt := 128) (by omega) (by omega) dX0_takeIn_43 (by decide) (fun hb43 => ?_) (fun hb43 => absurd hb43 (by omega))
        refine z_aload_n X 4 rfl rfl dX0_takeIn_128 ?_
        refine z_get X zinX0 2 (by omega) gC_D (ci := 2) rfl 10 (by decide) (ref := "TowerFields$Divisor") zw76 rfl rfl dX0_takeIn_129 ?_
        refine z_iload_n X 5 rfl rfl dX0_takeIn_132 ?_
        refine z_callVv X zm_X1_timesRoot zw527 zw528 zw526 (zFit_of (by decide) (by decide)) [.int (iZ (vz w))] (c_X1_timesRoot HU l h4 (k := 189) (by omega) w (by rw [h5 189 (by omega)]; exact hn)) rfl rfl (Nat.le_of_ble_eq_true rfl) (by omega) (gC_L (by omega)) (q := vwCl[3]) rfl rfl dX0_takeIn_133 (fun S9 R9 => ?_)
        rw [h5 189 (by omega)] at R9
        refine z_iload X 1 rfl dX0_takeIn_136 ?_
        obtain ⟨f9, hf9⟩ := zV_ex HA P1 12
        refine E S9 h3 ⟨h3, _, f9, R9, fun j j1 j2 => by rw [va_up_ne _ _ j2]; exact h5 j j1, zV_up (by omega) hf9, va_up_self _ _ _, fun j => ?_⟩ rfl dX0_takeIn_138
        by_cases hj : j < 13
        · rw [← hf9.1 j hj, h6 j hj]
          by_cases hji : j < i
          · rw [if_pos hji]
          · rw [if_neg hji, if_neg (by omega)]
        · rw [zV_out HA hf9 (by omega), zV_out HA hv (by omega), if_neg (by omega)]
    | succ n ih =>
      intro i t P1 S1 lv ks h1 h2 h2b h3 h4 h5 h6 hlv
      refine z_sub ks hlv ?_
      refine z_iload X 0 rfl dX0_takeIn_27 ?_
      refine z_aload_n X 4 rfl rfl dX0_takeIn_29 ?_
      refine z_get X zinX0 2 (by omega) gC_D (ci := 2) rfl 11 (by decide) (ref := "TowerFields$Divisor") zw77 rfl rfl dX0_takeIn_30 ?_
      refine zl_degN X (by omega) ((mp_sz cu (P 190) : Int) - 1) (by have h := h4.2.2.2.1 190 (by omega); rw [h5 190 (by omega)] at h; exact h) (List.mem_of_getElem? (i := 1) rfl) dX0_takeIn_33 ?_
      refine z_icmp_gt X (tgt := 128) (by omega) (by omega) dX0_takeIn_36 (by decide) (fun hb36 => ?_) (fun hb36 => ?_)
      · refine z_aload_n X 4 rfl rfl dX0_takeIn_128 ?_
        refine z_get X zinX0 2 (by omega) gC_D (ci := 2) rfl 10 (by decide) (ref := "TowerFields$Divisor") zw76 rfl rfl dX0_takeIn_129 ?_
        refine z_iload_n X 5 rfl rfl dX0_takeIn_132 ?_
        refine z_callVv X zm_X1_timesRoot zw527 zw528 zw526 (zFit_of (by decide) (by decide)) [.int (iZ (vz w))] (c_X1_timesRoot HU l h4 (k := 189) (by omega) w (by rw [h5 189 (by omega)]; exact hn)) rfl rfl (Nat.le_of_ble_eq_true rfl) (by omega) (gC_L (by omega)) (q := vwCl[3]) rfl rfl dX0_takeIn_133 (fun S9 R9 => ?_)
        rw [h5 189 (by omega)] at R9
        refine z_iload X 1 rfl dX0_takeIn_136 ?_
        obtain ⟨f9, hf9⟩ := zV_ex HA P1 12
        refine E S9 h3 ⟨h3, _, f9, R9, fun j j1 j2 => by rw [va_up_ne _ _ j2]; exact h5 j j1, zV_up (by omega) hf9, va_up_self _ _ _, fun j => ?_⟩ rfl dX0_takeIn_138
        by_cases hj : j < 13
        · rw [← hf9.1 j hj, h6 j hj]
          by_cases hji : j < i
          · rw [if_pos hji]
          · rw [if_neg hji, if_neg (by omega)]
        · rw [zV_out HA hf9 (by omega), zV_out HA hv (by omega), if_neg (by omega)]
      · refine z_iload X 0 rfl dX0_takeIn_39 ?_
        refine z_bipush X (n := 13) (by decide) dX0_takeIn_41 ?_
        refine z_icmp_ge X (tgt := 128) (by omega) (by omega) dX0_takeIn_43 (by decide) (fun hb43 => absurd hb43 (by omega)) (fun hb43 => ?_)
        refine z_aload_n X 4 rfl rfl dX0_takeIn_46 ?_
        refine z_get X zinX0 2 (by omega) gC_D (ci := 2) rfl 11 (by decide) (ref := "TowerFields$Divisor") zw77 rfl rfl dX0_takeIn_47 ?_
        refine z_iload X 0 rfl dX0_takeIn_50 ?_
        refine z_callVi X zm_X1_get zw301 zw302 zw524 (zFit_of (by decide) (by decide)) [.int (iZ (i))] (c_X1_getn HU l h4 (k := 190) (by omega) (i := i) (by omega) (by omega)) rfl rfl (Nat.le_of_ble_eq_true rfl) (by omega) (gC_L (by omega)) (q := vwCl[3]) rfl rfl dX0_takeIn_52 (fun z _ hz => ?_)
        rw [h5 190 (by omega)] at hz
        subst hz
        obtain ⟨ki, hki⟩ : ∃ x : FP, x = cu (P 190) i.toNat := ⟨_, rfl⟩
        rw [← hki]
        have m0 := @vz_mul_nn ki sc
        have m1 := @vz_mul_lt ki sc
        refine z_iload_n X 3 rfl rfl dX0_takeIn_55 ?_
        refine z_imul X dX0_takeIn_56 ?_
        refine z_sipush X (n := 32003) (by decide) dX0_takeIn_57 ?_
        refine z_irem X m0 (by omega) (by omega) (by omega) dX0_takeIn_60 ?_
        refine z_eqi (b := vz (ki * sc)) (vz_m ki sc) ?_
        refine z_istore X [(6, .int (iZ (vz (ki * sc)))), (5, .int (iZ (i))), (4, .int (iZ (t))), (3, .int (iZ (vz y))), (2, .int (iZ (vz sc))), (0, .ref (ad 2)), (1, .int (iZ (vz w)))] rfl (by decide) dX0_takeIn_61 ?_
        refine z_iload X 0 rfl dX0_takeIn_63 ?_
        refine z_sipush X (n := 32003) (by decide) dX0_takeIn_65 ?_
        refine z_iadd X dX0_takeIn_68 ?_
        refine z_aload_n X 5 rfl rfl dX0_takeIn_69 ?_
        refine z_get X zinX0 2 (by omega) gC_D (ci := 2) rfl 3 (by decide) (ref := "TowerFields$Divisor") zw69 rfl rfl dX0_takeIn_70 ?_
        refine z_iload X 1 rfl dX0_takeIn_73 ?_
        refine z_callVr X zm_X2_row zw113 zw114 zw473 (zFit_of (by decide) (by decide)) [.int (iZ (i))] (c_X2_row l S1 (q := 12) (by omega) (i := i) (by omega)) rfl rfl (Nat.le_of_ble_eq_true rfl) (by omega) (gC_P (by omega)) (q := vwCl[4]) rfl rfl dX0_takeIn_75 (fun j _ hz => ?_)
        have hj := zr_row hz (by omega) (by omega)
        subst hj
        refine z_iload_n X 6 rfl rfl dX0_takeIn_78 ?_
        refine z_callVi X zm_X1_valueAt zw516 zw517 zw515 (zFit_of (by decide) (by decide)) [.int (iZ (vz w))] (c_X1_valueAt HU l h4 (k := 13 * 12 + (i).toNat) (by omega) w) rfl rfl (Nat.le_of_ble_eq_true rfl) (by omega) (gC_L (by omega)) (q := vwCl[3]) rfl rfl dX0_takeIn_79 (fun z _ hz2 => ?_)
        have e156 : P1 (13 * 12 + (i).toNat) = ca f i.toNat := by rw [show 13 * 12 + (i).toNat = 156 + i.toNat by omega, h6 i.toNat (by omega), if_neg (by omega)]
        rw [e156] at hz2
        subst hz2
        obtain ⟨fi, hfi⟩ : ∃ x : FP, x = mp_e cu w (ca f i.toNat) := ⟨_, rfl⟩
        rw [← hfi]
        have n0 := vz_nn (ki * sc)
        have n1 := vz_lt (ki * sc)
        have n2 := vz_nn fi
        have n3 := vz_lt fi
        refine z_isub X dX0_takeIn_82 ?_
        refine z_sipush X (n := 32003) (by decide) dX0_takeIn_83 ?_
        refine z_irem X (by omega) (by omega) (by omega) (by omega) dX0_takeIn_86 ?_
        refine z_eqi (b := vz (ki * sc - fi)) (vz_sb _ _) ?_
        have q0 := vz_nn (ki * sc - fi)
        have q1 := vz_lt (ki * sc - fi)
        have q2 := @vz_mul_nn (ki * sc - fi) y
        have q3 := @vz_mul_lt (ki * sc - fi) y
        refine z_istore X [(7, .int (iZ (vz (ki * sc - fi)))), (6, .int (iZ (vz (ki * sc)))), (5, .int (iZ (i))), (4, .int (iZ (t))), (3, .int (iZ (vz y))), (2, .int (iZ (vz sc))), (0, .ref (ad 2)), (1, .int (iZ (vz w)))] rfl (by decide) dX0_takeIn_87 ?_
        refine z_iload X 0 rfl dX0_takeIn_89 ?_
        refine z_if_eq X (tgt := 122) (by omega) dX0_takeIn_91 (by decide) (fun hb91 => ?_) (fun hb91 => ?_)
        · refine z_iinc X [(5, .int (iZ (i + 1))), (7, .int (iZ (vz (ki * sc - fi)))), (6, .int (iZ (vz (ki * sc)))), (4, .int (iZ (t))), (3, .int (iZ (vz y))), (2, .int (iZ (vz sc))), (0, .ref (ad 2)), (1, .int (iZ (vz w)))] 2 rfl rfl (by decide) dX0_takeIn_122 ?_
          refine z_goto X (tgt := 27) dX0_takeIn_125 (by decide) ?_
          refine ih (i + 1) t P1 S1 _ [0, 3, 4, 5, 6, 7] (by omega) (by omega) (by omega) h3 h4 h5 (fun j hj => ?_) rfl
          have hm0 : ki * sc - fi = 0 := vz_z.mp hb91
          by_cases e1 : j = i.toNat
          · rw [e1, if_pos (by omega), if_pos (by omega), show 156 + i.toNat = 13 * 12 + (i).toNat by omega, e156, ← hsc, ← hy, ← hki, ← hfi, show (sc * ki - fi) * y = 0 by clear ih; grind, mp_m_0 HU]
            clear ih
            grind
          · rw [h6 j hj]
            by_cases e2 : j < i
            · rw [if_pos e2, if_pos (show ((j : Nat) : Int) < i + 1 by omega)]
            · rw [if_neg e2, if_neg (by omega)]
        · refine z_aload_n X 6 rfl rfl dX0_takeIn_94 ?_
          refine z_get X zinX0 2 (by omega) gC_D (ci := 2) rfl 3 (by decide) (ref := "TowerFields$Divisor") zw69 rfl rfl dX0_takeIn_95 ?_
          refine z_iload X 2 rfl dX0_takeIn_98 ?_
          refine z_callVr X zm_X2_row zw113 zw114 zw473 (zFit_of (by decide) (by decide)) [.int (iZ (i))] (c_X2_row l S1 (q := 12) (by omega) (i := i) (by omega)) rfl rfl (Nat.le_of_ble_eq_true rfl) (by omega) (gC_P (by omega)) (q := vwCl[4]) rfl rfl dX0_takeIn_100 (fun j _ hz => ?_)
          have hj := zr_row hz (by omega) (by omega)
          subst hj
          refine z_aload_n X 6 rfl rfl dX0_takeIn_103 ?_
          refine z_get X zinX0 2 (by omega) gC_D (ci := 2) rfl 10 (by decide) (ref := "TowerFields$Divisor") zw76 rfl rfl dX0_takeIn_104 ?_
          refine z_iload X 0 rfl dX0_takeIn_107 ?_
          refine z_iload_n X 4 rfl rfl dX0_takeIn_109 ?_
          refine z_imul X dX0_takeIn_110 ?_
          refine z_sipush X (n := 32003) (by decide) dX0_takeIn_111 ?_
          refine z_irem X q2 (by omega) (by omega) (by omega) dX0_takeIn_114 ?_
          refine z_eqi (b := vz ((ki * sc - fi) * y)) (vz_m _ _) ?_
          refine z_iconst X (n := 0) dX0_takeIn_115 ?_
          refine z_callVv X zm_X1_plusShifted zw402 zw403 zw525 (zFit_of (by decide) (by decide)) [.ref (ad (189 + 31)), .int (iZ (vz ((ki * sc - fi) * y))), .int (iZ (0))] (c_X1_plusShifted HU l h4 (k := 13 * 12 + (i).toNat) (k2 := 189) (by omega) (by omega) (by omega) ((ki * sc - fi) * y) (sh := 0) (by omega) (by omega) (Or.inr (by rw [h5 189 (by omega)]; omega))) rfl rfl (Nat.le_of_ble_eq_true rfl) (by omega) (gC_L (by omega)) (q := vwCl[3]) rfl rfl dX0_takeIn_116 (fun S2 hu2 => ?_)
          refine z_iconst X (n := 0) dX0_takeIn_119 ?_
          refine z_istore X [(4, .int (iZ (0))), (7, .int (iZ (vz (ki * sc - fi)))), (6, .int (iZ (vz (ki * sc)))), (5, .int (iZ (i))), (3, .int (iZ (vz y))), (2, .int (iZ (vz sc))), (0, .ref (ad 2)), (1, .int (iZ (vz w)))] rfl (by decide) dX0_takeIn_120 ?_
          refine z_iinc X [(5, .int (iZ (i + 1))), (4, .int (iZ (0))), (7, .int (iZ (vz (ki * sc - fi)))), (6, .int (iZ (vz (ki * sc)))), (3, .int (iZ (vz y))), (2, .int (iZ (vz sc))), (0, .ref (ad 2)), (1, .int (iZ (vz w)))] 3 rfl rfl (by decide) dX0_takeIn_122 ?_
          refine z_goto X (tgt := 27) dX0_takeIn_125 (by decide) ?_
          refine ih (i + 1) 0 _ S2 _ [0, 1, 4, 5, 6, 7] (by omega) (by omega) (by omega) (Or.inl rfl) hu2 (fun j hj => ?_) (fun j hj => ?_) rfl
          · rw [va_up_ne _ _ (by omega)]; exact h5 j hj
          · by_cases e1 : j = i.toNat
            · rw [e1, show 156 + i.toNat = 13 * 12 + (i).toNat by omega, va_up_self, if_pos (by omega), if_pos (by omega), e156, h5 189 (by omega), ← hsc, ← hy, ← hki, ← hfi, show sc * ki - fi = ki * sc - fi by clear ih; grind]
              rfl
            · rw [va_up_ne _ _ (by omega), h6 j hj]
              by_cases e2 : j < i
              · rw [if_pos e2, if_pos (show ((j : Nat) : Int) < i + 1 by omega)]
              · rw [if_neg e2, if_neg (by omega)]
  refine z_aload_n X 0 rfl rfl dX0_takeIn_0 ?_
  refine z_get X zinX0 2 (by omega) gC_D (ci := 2) rfl 9 (by decide) (ref := "TowerFields$Divisor") zw75 rfl rfl dX0_takeIn_1 ?_
  refine z_iload_n X 1 rfl rfl dX0_takeIn_4 ?_
  refine z_callVi X zm_X1_valueAt zw516 zw517 zw515 (zFit_of (by decide) (by decide)) [.int (iZ (vz w))] (c_X1_valueAt HU l hR (k := 188) (by omega) w) rfl rfl (Nat.le_of_ble_eq_true rfl) (by omega) (gC_L (by omega)) (q := vwCl[3]) rfl rfl dX0_takeIn_5 (fun z _ hz => ?_)
  rw [← hsc] at hz
  subst hz
  refine z_istore_n X [(2, .int (iZ (vz sc))), (0, .ref (ad 2)), (1, .int (iZ (vz w)))] rfl rfl (by decide) dX0_takeIn_8 ?_
  refine z_aload_n X 1 rfl rfl dX0_takeIn_9 ?_
  refine z_get X zinX0 2 (by omega) gC_D (ci := 2) rfl 10 (by decide) (ref := "TowerFields$Divisor") zw76 rfl rfl dX0_takeIn_10 ?_
  refine z_iload_n X 2 rfl rfl dX0_takeIn_13 ?_
  refine z_callVi X zm_X1_valueAt zw516 zw517 zw515 (zFit_of (by decide) (by decide)) [.int (iZ (vz w))] (c_X1_valueAt HU l hR (k := 189) (by omega) w) rfl rfl (Nat.le_of_ble_eq_true rfl) (by omega) (gC_L (by omega)) (q := vwCl[3]) rfl rfl dX0_takeIn_14 (fun z _ hz => ?_)
  subst hz
  refine z_callSNi X zm_X3_inverse zw279 (List.mem_of_getElem? (i := 6) rfl) (zFit_of (by decide) (by decide)) [.int (iZ (vz (mp_e cu w (P 189))))] (c_X3_inverse l (gC ad cI cO S) (mp_e cu w (P 189))) rfl rfl (Nat.le_of_ble_eq_true rfl) dX0_takeIn_17 (fun z _ hz => ?_)
  rw [← hy] at hz
  subst hz
  refine z_istore_n X [(3, .int (iZ (vz y))), (2, .int (iZ (vz sc))), (0, .ref (ad 2)), (1, .int (iZ (vz w)))] rfl rfl (by decide) dX0_takeIn_20 ?_
  refine z_iconst X (n := 1) dX0_takeIn_21 ?_
  refine z_istore X [(4, .int (iZ (1))), (3, .int (iZ (vz y))), (2, .int (iZ (vz sc))), (0, .ref (ad 2)), (1, .int (iZ (vz w)))] rfl (by decide) dX0_takeIn_22 ?_
  refine z_iconst X (n := 0) dX0_takeIn_24 ?_
  refine z_istore X [(5, .int (iZ (0))), (4, .int (iZ (1))), (3, .int (iZ (vz y))), (2, .int (iZ (vz sc))), (0, .ref (ad 2)), (1, .int (iZ (vz w)))] rfl (by decide) dX0_takeIn_25 ?_
  exact loop 13 0 1 P S _ [0, 1, 2, 3, 4, 5] (by omega) (by omega) (by omega) (Or.inr rfl) hR (fun _ _ => rfl) (fun j hj => by rw [if_neg (by omega)]; exact hv.1 j hj) rfl
