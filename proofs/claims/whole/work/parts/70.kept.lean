section
variable {U V : Type}
theorem zO_r1 [Lean.Grind.CommRing U] [Lean.Grind.CommRing V] {cu : U → Nat → FP} {ca : V → Nat → U} {F : Nat → V} {T : zTM} {M : zM} (h : zO cu ca F T M) : M.1 1 = T.1 := by rw [← h.1.2]; rfl
theorem zO_r2 [Lean.Grind.CommRing U] [Lean.Grind.CommRing V] {cu : U → Nat → FP} {ca : V → Nat → U} {F : Nat → V} {T : zTM} {M : zM} (h : zO cu ca F T M) : M.1 2 = T.2.1 := by rw [← h.1.2]; rfl
theorem zO_rc [Lean.Grind.CommRing U] [Lean.Grind.CommRing V] {cu : U → Nat → FP} {ca : V → Nat → U} {F : Nat → V} {T : zTM} {M : zM} (h : zO cu ca F T M) : M.2.2.1 = T.2.2.1 := by rw [← h.1.2]; rfl
theorem zO_rm [Lean.Grind.CommRing U] [Lean.Grind.CommRing V] {cu : U → Nat → FP} {ca : V → Nat → U} {F : Nat → V} {T : zTM} {M : zM} (h : zO cu ca F T M) : M.2.2.2.1 = T.2.2.2.1 := by rw [← h.1.2]; rfl
theorem zO_rk [Lean.Grind.CommRing U] [Lean.Grind.CommRing V] {cu : U → Nat → FP} {ca : V → Nat → U} {F : Nat → V} {T : zTM} {M : zM} (h : zO cu ca F T M) : M.2.2.2.2.1 = T.2.2.2.2 := by rw [← h.1.2]; rfl
theorem zO_el [Lean.Grind.CommRing U] [Lean.Grind.CommRing V] {cu : U → Nat → FP} {ca : V → Nat → U} {F : Nat → V} {T : zTM} {M : zM} (h : zO cu ca F T M) (f g : Nat → FP) (z : Int) : zO cu ca F (f, g, T.2.2.1, z, T.2.2.2.2) (fmany (fa (fa M 1 f) 2 g) z) := by
  refine ⟨⟨fun x hx => ?_, ?_⟩, h.2⟩
  · show (∀ j, j < 880 → (fa (fa M 1 f) 2 g).1 x j = _) ∧ _
    rw [fa_ne _ _ (by omega), fa_ne _ _ (by omega)]
    exact h.1.1 x hx
  · rw [← h.1.2]
    show ((fa (fa M 1 f) 2 g).1 1, (fa (fa M 1 f) 2 g).1 2, M.2.2.1, z, M.2.2.2.2.1) = _
    rw [fa_at, fa_ne _ _ (by omega), fa_at]
    rfl
/-- a row of one term -/
theorem zO_put [Lean.Grind.CommRing U] [Lean.Grind.CommRing V] {cu : U → Nat → FP} {ca : V → Nat → U} (HU : mp_P cu) (HA : mp_P ca) {F : Nat → V} {T : zTM} {M : zM} (h : zO cu ca F T M) {x : Nat} (hx : zBx x) (h0 : F x = 0) {i j : Nat} (hi : i < 7) (hj : j < 7) (v : FP) : zO cu ca (va_up F x (mp_m ca (mp_m cu v j) i)) T (fa M x (va_up (M.1 x) (40 * i + j) v)) := by
  have hb : zbb cu ca 7 7 (mp_m ca (mp_m cu v j) i) := ⟨Nat.le_trans (mp_sz_m HA _ _) (by omega), mp_xz_le HU HA (fun r => by
    rw [mp_m_cf HA]
    split
    · exact Nat.le_trans (mp_sz_m HU _ _) (by omega)
    · exact mp_sz_le HU (fun n _ => mp_zero HU n))⟩
  refine zO_fa HU HA h hx _ (zbb_le hb (by omega) (by omega)) (fun k hk => ?_)
  rw [mk_cf' HU HA (Nat.le_trans hb.2 (by omega)), mp_m_cf HA]
  by_cases e : k = 40 * i + j
  · rw [e, va_up_self, if_pos (by omega), mp_m_cf HU, if_pos (by omega)]
  · rw [va_up_ne _ _ e, zO_at h hx k hk, h0, mk_0 HU HA, mp_zero HU]
    split
    · rw [mp_m_cf HU, if_neg (by omega)]
    · exact (mp_zero HU _).symm
def mEls [Lean.Grind.CommRing U] [Lean.Grind.CommRing V] (cu : U → Nat → FP) (ca : V → Nat → U) (T : zTM) (EL : Int → V × V) : Prop := 0 ≤ T.2.2.2.1 ∧ T.2.2.2.1 ≤ 120 ∧ ∀ n, 0 ≤ n → n < T.2.2.2.1 → mEl cu ca T.1 n (EL n).1 ∧ mEl cu ca T.2.1 n (EL n).2
/-- the derivation of t in its two rows -/
def mSl [Lean.Grind.CommRing U] [Lean.Grind.CommRing V] (cu : U → Nat → FP) (ca : V → Nat → U) (kd : Int) (W sD : V) : Prop := kd ≠ 0 → zbb cu ca 2 13 W ∧ zbb cu ca 1 13 sD ∧ sD ≠ 0
def mG [Lean.Grind.CommRing U] [Lean.Grind.CommRing V] (cu : U → Nat → FP) (ca : V → Nat → U) (EL : Int → V × V) (md kd : Int) (W sD : V) (cd : Int) (F : Nat → V) (T : zTM) : Prop := mEls cu ca T EL ∧ T.2.2.1 = cd ∧ T.2.2.2.1 = md ∧ T.2.2.2.2 = kd ∧ (kd ≠ 0 → F 3 = W ∧ F 4 = sD)
/-- the reference, with these elements, so many made, t's kind, the derivation of t, what was thrown -/
def zGm [Lean.Grind.CommRing U] [Lean.Grind.CommRing V] (cu : U → Nat → FP) (ca : V → Nat → U) (EL : Int → V × V) (md kd : Int) (W sD : V) (cd : Int) (M : zM) : Prop := (∃ F T, zO cu ca F T M ∧ mG cu ca EL md kd W sD cd F T) ∧ mSl cu ca kd W sD ∧ (0 ≤ kd ∧ kd ≤ 2)
theorem mG_F [Lean.Grind.CommRing U] [Lean.Grind.CommRing V] {cu : U → Nat → FP} {ca : V → Nat → U} {EL : Int → V × V} {md kd : Int} {W sD : V} {cd : Int} {F F9 : Nat → V} {T : zTM} (h : mG cu ca EL md kd W sD cd F T) (h3 : F9 3 = F 3) (h4 : F9 4 = F 4) : mG cu ca EL md kd W sD cd F9 T := ⟨h.1, h.2.1, h.2.2.1, h.2.2.2.1, fun q => by rw [h3, h4]; exact h.2.2.2.2 q⟩
theorem mG_code [Lean.Grind.CommRing U] [Lean.Grind.CommRing V] {cu : U → Nat → FP} {ca : V → Nat → U} {EL : Int → V × V} {md kd : Int} {W sD : V} {cd : Int} {F : Nat → V} {T : zTM} (h : mG cu ca EL md kd W sD cd F T) (z : Int) : mG cu ca EL md kd W sD z F (T.1, T.2.1, z, T.2.2.2) := ⟨h.1, rfl, h.2.2.1, h.2.2.2.1, h.2.2.2.2⟩
theorem zGm_code [Lean.Grind.CommRing U] [Lean.Grind.CommRing V] {cu : U → Nat → FP} {ca : V → Nat → U} {EL : Int → V × V} {md kd : Int} {W sD : V} {cd : Int} {M : zM} (h : zGm cu ca EL md kd W sD cd M) (z : Int) : zGm cu ca EL md kd W sD z (fcode M z) := by
  obtain ⟨⟨F, T, h1, h2⟩, h3⟩ := h
  exact ⟨⟨F, _, zO_code h1 z, mG_code h2 z⟩, h3⟩
/-- one element more -/
theorem mEls_up [Lean.Grind.CommRing U] [Lean.Grind.CommRing V] {cu : U → Nat → FP} {ca : V → Nat → U} {T : zTM} {EL : Int → V × V} (h : mEls cu ca T EL) (hlt : T.2.2.2.1 < 120) {f g : Nat → FP} (hf : ∀ z : Nat, (z : Int) < 49 * T.2.2.2.1 → f z = T.1 z) (hg : ∀ z : Nat, (z : Int) < 49 * T.2.2.2.1 → g z = T.2.1 z) {p q : V} (hp : mEl cu ca f T.2.2.2.1 p) (hq : mEl cu ca g T.2.2.2.1 q) (c k : Int) : mEls cu ca (f, g, c, T.2.2.2.1 + 1, k) (zUp EL T.2.2.2.1 (p, q)) := by
  obtain ⟨h1, h2, h3⟩ := h
  refine ⟨by show 0 ≤ T.2.2.2.1 + 1; omega, by show T.2.2.2.1 + 1 ≤ 120; omega, fun n n0 n1 => ?_⟩
  have n2 : n < T.2.2.2.1 + 1 := n1
  by_cases e : n = T.2.2.2.1
  · rw [e, zUp_s]; exact ⟨hp, hq⟩
  · rw [zUp_n EL _ e]
    obtain ⟨q1, q2⟩ := h3 n n0 (by omega)
    exact ⟨⟨fun j hj => by show f _ = _; rw [hf _ (by omega)]; exact q1.1 j hj, q1.2⟩, ⟨fun j hj => by show g _ = _; rw [hg _ (by omega)]; exact q2.1 j hj, q2.2⟩⟩
end
set_option maxHeartbeats 8000000 in
set_option maxRecDepth 100000 in
theorem c_X4_thrown (l : Launch) {D : va_G} {ad : Nat → Nat} {cI : ClassId} (M : zM) {cd : Int} (hcd : M.2.2.1 = cd) : zMi l yX4_thrown cX4_thrown 1 (some .int) 0 D (zTyM cI) 18 ad [.ref (ad 0)] (gM ad cI M) (fun _ : Unit => gM ad cI M) (fun z _ => z = cd) := by
  refine z_goi zm_X4_thrown (Nat.le_of_ble_eq_true rfl) [(0, .ref (ad 0))] rfl (fun p e s m args below meth c A Q X E => ?_)
  refine z_aload_n X 0 rfl rfl dX4_thrown_0 ?_
  refine z_get X zinX4 0 (by omega) gM_O (ci := 6) rfl 0 (by decide) (ref := "TowerFieldsModel") zw671 rfl rfl dX4_thrown_1 ?_
  refine z_eqi (b := cd) hcd ?_
  exact E () rfl rfl dX4_thrown_4
set_option maxHeartbeats 8000000 in
set_option maxRecDepth 100000 in
theorem c_X4_raise (l : Launch) {D : va_G} {ad : Nat → Nat} {cI : ClassId} (M : zM) (k : Int) : zMi l yX4_raise cX4_raise 2 (some .int) 0 D (zTyM cI) 18 ad [.ref (ad 0), .int (iZ (k))] (gM ad cI M) (gM ad cI) (fun z u => z = 0 ∧ u = fcode M k) := by
  refine z_goi zm_X4_raise (Nat.le_of_ble_eq_true rfl) [(0, .ref (ad 0)), (1, .int (iZ (k)))] rfl (fun p e s m args below meth c A Q X E => ?_)
  refine z_aload_n X 0 rfl rfl dX4_raise_0 ?_
  refine z_iload_n X 1 rfl rfl dX4_raise_1 ?_
  refine zn_pcode X dX4_raise_2 ?_
  refine z_iconst X (n := 0) dX4_raise_5 ?_
  exact E (fcode M k) ⟨rfl, rfl⟩ rfl dX4_raise_6
set_option maxHeartbeats 8000000 in
set_option maxRecDepth 100000 in
theorem c_X4_count (l : Launch) {D : va_G} {ad : Nat → Nat} {cI : ClassId} (M : zM) {md : Int} (hmd : M.2.2.2.1 = md) : zMi l yX4_count cX4_count 1 (some .int) 0 D (zTyM cI) 18 ad [.ref (ad 0)] (gM ad cI M) (gM ad cI) (fun z u => z = md ∧ u = fcode M 0) := by
  refine z_goi zm_X4_count (Nat.le_of_ble_eq_true rfl) [(0, .ref (ad 0))] rfl (fun p e s m args below meth c A Q X E => ?_)
  refine z_aload_n X 0 rfl rfl dX4_count_0 ?_
  refine z_iconst X (n := 0) dX4_count_1 ?_
  refine zn_pcode X dX4_count_2 ?_
  refine z_aload_n X 0 rfl rfl dX4_count_5 ?_
  refine z_get X zinX4 0 (by omega) gM_O (ci := 6) rfl 1 (by decide) (ref := "TowerFieldsModel") zw672 rfl rfl dX4_count_6 ?_
  refine z_eqi (b := md) hmd ?_
  exact E (fcode M 0) ⟨rfl, rfl⟩ rfl dX4_count_9
set_option maxHeartbeats 8000000 in
set_option maxRecDepth 100000 in
theorem c_X4_isElement (l : Launch) {D : va_G} {ad : Nat → Nat} {cI : ClassId} (M : zM) {n md : Int} (hn : -2147483648 ≤ n ∧ n < 2147483648) (hmd : M.2.2.2.1 = md) (hm : 0 ≤ md ∧ md ≤ 120) : zMi l yX4_isElement cX4_isElement 2 (some .boolean) 0 D (zTyM cI) 18 ad [.ref (ad 0), .int (iZ (n))] (gM ad cI M) (fun _ : Unit => gM ad cI M) (fun z _ => (z = 1 ∧ 0 ≤ n ∧ n < md) ∨ (z = 0 ∧ ¬ (0 ≤ n ∧ n < md))) := by
  refine z_goz zm_X4_isElement (Nat.le_of_ble_eq_true rfl) [(0, .ref (ad 0)), (1, .int (iZ (n)))] rfl (fun p e s m args below meth c A Q X E => ?_)
  refine z_iload_n X 1 rfl rfl dX4_isElement_0 ?_
  refine z_if_lt X (tgt := 16) (by omega) dX4_isElement_1 (by decide) (fun hb1 => ?_) (fun hb1 => ?_)
  · refine z_iconst X (n := 0) dX4_isElement_16 ?_
    exact E () (by omega) (by omega) rfl dX4_isElement_17
  · refine z_iload_n X 1 rfl rfl dX4_isElement_4 ?_
    refine z_aload_n X 0 rfl rfl dX4_isElement_5 ?_
    refine z_get X zinX4 0 (by omega) gM_O (ci := 6) rfl 1 (by decide) (ref := "TowerFieldsModel") zw672 rfl rfl dX4_isElement_6 ?_
    refine z_eqi (b := md) hmd ?_
    refine z_icmp_ge X (tgt := 16) (by omega) (by omega) dX4_isElement_9 (by decide) (fun hb9 => ?_) (fun hb9 => ?_)
    · refine z_iconst X (n := 0) dX4_isElement_16 ?_
      exact E () (by omega) (by omega) rfl dX4_isElement_17
    · refine z_iconst X (n := 1) dX4_isElement_12 ?_
      refine z_goto X (tgt := 17) dX4_isElement_13 (by decide) ?_
      exact E () (by omega) (by omega) rfl dX4_isElement_17
set_option maxHeartbeats 8000000 in
set_option maxRecDepth 100000 in
theorem c_X4_are (l : Launch) {D : va_G} {ad : Nat → Nat} {cI : ClassId} (M : zM) {n1 n2 md : Int} (hn1 : -2147483648 ≤ n1 ∧ n1 < 2147483648) (hn2 : -2147483648 ≤ n2 ∧ n2 < 2147483648) (hmd : M.2.2.2.1 = md) (hm : 0 ≤ md ∧ md ≤ 120) : zMi l yX4_are cX4_are 3 (some .boolean) 1 D (zTyM cI) 18 ad [.ref (ad 0), .int (iZ (n1)), .int (iZ (n2))] (gM ad cI M) (gM ad cI) (fun z u => (¬ ((0 ≤ n1 ∧ n1 < md) ∧ (0 ≤ n2 ∧ n2 < md)) ∧ z = 0 ∧ u = fcode M 1) ∨ (((0 ≤ n1 ∧ n1 < md) ∧ (0 ≤ n2 ∧ n2 < md)) ∧ ¬ md < 120 ∧ z = 0 ∧ u = fcode M 2) ∨ (((0 ≤ n1 ∧ n1 < md) ∧ (0 ≤ n2 ∧ n2 < md)) ∧ md < 120 ∧ z = 1 ∧ u = fcode M 0)) := by
  refine z_goz zm_X4_are (Nat.le_of_ble_eq_true rfl) [(0, .ref (ad 0)), (1, .int (iZ (n1))), (2, .int (iZ (n2)))] rfl (fun p e s m args below meth c A Q X E => ?_)
  refine z_aload_n X 0 rfl rfl dX4_are_0 ?_
  refine z_aload_n X 0 rfl rfl dX4_are_1 ?_
  refine z_iload_n X 1 rfl rfl dX4_are_2 ?_
  refine z_callVi X zm_X4_isElement zw775 zp30 zw773 (zFit_of (by decide) (by decide)) [.int (iZ (n1))] (c_X4_isElement l M hn1 hmd hm) rfl rfl (Nat.le_of_ble_eq_true rfl) (by omega) gM_O (q := vwCl[6]) rfl rfl dX4_are_3 (fun z1 _ hz1 => ?_)
  refine z_if_eq X (tgt := 17) (by omega) dX4_are_6 (by decide) (fun hb6 => ?_) (fun hb6 => ?_)
  · refine z_iconst X (n := 1) dX4_are_17 ?_
    refine z_goto X (tgt := 35) dX4_are_18 (by decide) ?_
    refine zn_pcode X dX4_are_35 ?_
    refine z_aload_n X 0 rfl rfl dX4_are_38 ?_
    refine z_get X zinX4 0 (by omega) gM_O (ci := 6) rfl 0 (by decide) (ref := "TowerFieldsModel") zw671 rfl rfl dX4_are_39 ?_
    refine z_eqi (b := 1) rfl ?_
    refine z_if_ne X (tgt := 49) (by omega) dX4_are_42 (by decide) (fun hb42 => ?_) (fun hb42 => absurd hb42 (by omega))
    refine z_iconst X (n := 0) dX4_are_49 ?_
    exact E (fcode M (1)) (by omega) (Or.inl ⟨by omega, rfl, rfl⟩) rfl dX4_are_50
  · refine z_aload_n X 0 rfl rfl dX4_are_9 ?_
    refine z_iload_n X 2 rfl rfl dX4_are_10 ?_
    refine z_callVi X zm_X4_isElement zw775 zp30 zw773 (zFit_of (by decide) (by decide)) [.int (iZ (n2))] (c_X4_isElement l M hn2 hmd hm) rfl rfl (Nat.le_of_ble_eq_true rfl) (by omega) gM_O (q := vwCl[6]) rfl rfl dX4_are_11 (fun z2 _ hz2 => ?_)
    refine z_if_ne X (tgt := 21) (by omega) dX4_are_14 (by decide) (fun hb14 => ?_) (fun hb14 => ?_)
    · refine z_aload_n X 0 rfl rfl dX4_are_21 ?_
      refine z_get X zinX4 0 (by omega) gM_O (ci := 6) rfl 1 (by decide) (ref := "TowerFieldsModel") zw672 rfl rfl dX4_are_22 ?_
      refine z_eqi (b := md) hmd ?_
      refine z_bipush X (n := 120) (by decide) dX4_are_25 ?_
      refine z_icmp_ne X (tgt := 34) (by omega) (by omega) dX4_are_27 (by decide) (fun hb27 => ?_) (fun hb27 => ?_)
      · refine z_iconst X (n := 0) dX4_are_34 ?_
        refine zn_pcode X dX4_are_35 ?_
        refine z_aload_n X 0 rfl rfl dX4_are_38 ?_
        refine z_get X zinX4 0 (by omega) gM_O (ci := 6) rfl 0 (by decide) (ref := "TowerFieldsModel") zw671 rfl rfl dX4_are_39 ?_
        refine z_eqi (b := 0) rfl ?_
        refine z_if_ne X (tgt := 49) (by omega) dX4_are_42 (by decide) (fun hb42 => absurd hb42 (by omega)) (fun hb42 => ?_)
        refine z_iconst X (n := 1) dX4_are_45 ?_
        refine z_goto X (tgt := 50) dX4_are_46 (by decide) ?_
        exact E (fcode M (0)) (by omega) (Or.inr (Or.inr ⟨by omega, by omega, rfl, rfl⟩)) rfl dX4_are_50
      · refine z_iconst X (n := 2) dX4_are_30 ?_
        refine z_goto X (tgt := 35) dX4_are_31 (by decide) ?_
        refine zn_pcode X dX4_are_35 ?_
        refine z_aload_n X 0 rfl rfl dX4_are_38 ?_
        refine z_get X zinX4 0 (by omega) gM_O (ci := 6) rfl 0 (by decide) (ref := "TowerFieldsModel") zw671 rfl rfl dX4_are_39 ?_
        refine z_eqi (b := 2) rfl ?_
        refine z_if_ne X (tgt := 49) (by omega) dX4_are_42 (by decide) (fun hb42 => ?_) (fun hb42 => absurd hb42 (by omega))
        refine z_iconst X (n := 0) dX4_are_49 ?_
        exact E (fcode M (2)) (by omega) (Or.inr (Or.inl ⟨by omega, by omega, rfl, rfl⟩)) rfl dX4_are_50
    · refine z_iconst X (n := 1) dX4_are_17 ?_
      refine z_goto X (tgt := 35) dX4_are_18 (by decide) ?_
      refine zn_pcode X dX4_are_35 ?_
      refine z_aload_n X 0 rfl rfl dX4_are_38 ?_
      refine z_get X zinX4 0 (by omega) gM_O (ci := 6) rfl 0 (by decide) (ref := "TowerFieldsModel") zw671 rfl rfl dX4_are_39 ?_
      refine z_eqi (b := 1) rfl ?_
      refine z_if_ne X (tgt := 49) (by omega) dX4_are_42 (by decide) (fun hb42 => ?_) (fun hb42 => absurd hb42 (by omega))
      refine z_iconst X (n := 0) dX4_are_49 ?_
      exact E (fcode M (1)) (by omega) (Or.inl ⟨by omega, rfl, rfl⟩) rfl dX4_are_50
set_option maxHeartbeats 8000000 in
set_option maxRecDepth 100000 in
theorem c_X4_keep {U V : Type} [Lean.Grind.CommRing U] [Lean.Grind.CommRing V] {cu : U → Nat → FP} {ca : V → Nat → U} (HU : mp_P cu) (HA : mp_P ca) (l : Launch) {D : va_G} {ad : Nat → Nat} {cI : ClassId} {F : Nat → V} {T : zTM} {M : zM} (hO : zO cu ca F T M) {EL : Int → V × V} (hE : mEls cu ca T EL) (hlt : T.2.2.2.1 < 120) (hb10 : mk_box cu ca (F 10)) (hb11 : mk_box cu ca (F 11)) : zMi l yX4_keep cX4_keep 3 (some .int) 0 D (zTyM cI) 18 ad [.ref (ad 0)] (gM ad cI M) (gM ad cI) (fun z u => z = T.2.2.2.1 ∧ ∃ f g, zO cu ca F (f, g, T.2.2.1, T.2.2.2.1 + 1, T.2.2.2.2) u ∧ (∀ z : Nat, (z : Int) < 49 * T.2.2.2.1 → f z = T.1 z) ∧ (∀ z : Nat, (z : Int) < 49 * T.2.2.2.1 → g z = T.2.1 z) ∧ mEl cu ca f T.2.2.2.1 (F 10) ∧ mEl cu ca g T.2.2.2.1 (F 11)) := by
  obtain ⟨hm0, hm1, hel⟩ := hE
  have e10 := zO_at hO (x := 10) (by decide)
  have e11 := zO_at hO (x := 11) (by decide)
  have hmd0 : M.2.2.2.1 = T.2.2.2.1 := zO_rm hO
  have r1 := zO_r1 hO
  have r2 := zO_r2 hO
  refine z_goi zm_X4_keep (Nat.le_of_ble_eq_true rfl) [(0, .ref (ad 0))] rfl (fun p e s m args below meth c A Q X E => ?_)
  refine z_iconst X (n := 0) dX4_keep_0 ?_
  refine z_istore_n X [(1, .int (iZ (0))), (0, .ref (ad 0))] rfl rfl (by decide) dX4_keep_1 ?_
  rw [← fa_self2 M (by omega : (1 : Nat) ≠ 2)]
  have loop : ∀ (kloop : Nat) (i : Int) (f : Nat → FP) (g : Nat → FP) (lv : List (Nat × Value)) (ks : List Nat), i + kloop = 49 → 0 ≤ i → (∀ z : Nat, (z : Int) < 49 * T.2.2.2.1 → f z = M.1 1 z) → (∀ z : Nat, (z : Int) < 49 * T.2.2.2.1 → g z = M.1 2 z) → (∀ j : Nat, (j : Int) < i → f (49 * T.2.2.2.1.toNat + j) = M.1 10 (40 * (j / 7) + j % 7)) → (∀ j : Nat, (j : Int) < i → g (49 * T.2.2.2.1.toNat + j) = M.1 11 (40 * (j / 7) + j % 7)) → lv_pick lv ks = [(1, .int (iZ (i))), (0, .ref (ad 0))] → Z p l e (zRm 0) s m args below meth c 3 D 18 ad A 0 0 Q 2 lv [] (gM ad cI (fa (fa M 1 f) 2 g)) := by
    intro kloop
    induction kloop with
    | zero =>
      intro i f g lv ks e1loop e2loop b1 b2 b3 b4 hlvloop
      refine z_sub ks hlvloop ?_
      refine z_iload_n X 0 rfl rfl dX4_keep_2 ?_
      refine z_bipush X (n := 49) (by decide) dX4_keep_3 ?_
      refine z_icmp_ge X (tgt := 67) (by omega) (by omega) dX4_keep_5 (by decide) (fun hb5 => ?_) (fun hb5 => absurd hb5 (by omega))
      refine z_aload_n X 1 rfl rfl dX4_keep_67 ?_
      refine z_dup X rfl dX4_keep_68 ?_
      refine z_get X zinX4 0 (by omega) gM_O (ci := 6) rfl 1 (by decide) (ref := "TowerFieldsModel") zw672 rfl rfl dX4_keep_69 ?_
      refine z_eqi (b := T.2.2.2.1) hmd0 ?_
      refine z_iconst X (n := 1) dX4_keep_72 ?_
      refine z_iadd X dX4_keep_73 ?_
      refine zn_pmany X dX4_keep_74 ?_
      refine z_aload_n X 1 rfl rfl dX4_keep_77 ?_
      refine z_get X zinX4 0 (by omega) gM_O (ci := 6) rfl 1 (by decide) (ref := "TowerFieldsModel") zw672 rfl rfl dX4_keep_78 ?_
      refine z_eqi (b := T.2.2.2.1 + 1) rfl ?_
      refine z_iconst X (n := 1) dX4_keep_81 ?_
      refine z_isub X dX4_keep_82 ?_
      have hz : ∀ (fx : Nat → FP) (x : Nat) (a : V), (∀ j, j < 880 → M.1 x j = cu (mk_K cu ca a) j) → mk_box cu ca a → (∀ j : Nat, (j : Int) < i → fx (49 * T.2.2.2.1.toNat + j) = M.1 x (40 * (j / 7) + j % 7)) → mEl cu ca fx T.2.2.2.1 a := fun fx x a q1 q2 q3 => ⟨fun k hk => by
        rw [q3 k (by omega), q1 _ (by omega), mk_cf' HU HA (Nat.le_trans q2.2 (by omega)), show (40 * (k / 7) + k % 7) / 40 = k / 7 by omega, show (40 * (k / 7) + k % 7) % 40 = k % 7 by omega], q2⟩
      exact E (fmany (fa (fa M 1 f) 2 g) (T.2.2.2.1 + 1)) ⟨by omega, f, g, zO_el hO f g _, fun z hz => by rw [b1 z hz, r1], fun z hz => by rw [b2 z hz, r2], hz f 10 _ e10 hb10 b3, hz g 11 _ e11 hb11 b4⟩ rfl dX4_keep_83
    | succ kloop ihloop =>
      intro i f g lv ks e1loop e2loop b1 b2 b3 b4 hlvloop
      refine z_sub ks hlvloop ?_
      refine z_iload_n X 0 rfl rfl dX4_keep_2 ?_
      refine z_bipush X (n := 49) (by decide) dX4_keep_3 ?_
      refine z_icmp_ge X (tgt := 67) (by omega) (by omega) dX4_keep_5 (by decide) (fun hb5 => absurd hb5 (by omega)) (fun hb5 => ?_)
      refine z_bipush X (n := 40) (by decide) dX4_keep_8 ?_
      refine z_iload_n X 0 rfl rfl dX4_keep_10 ?_
      refine z_bipush X (n := 7) (by decide) dX4_keep_11 ?_
      refine z_idiv X (by omega) (by omega) (by omega) (by omega) dX4_keep_13 ?_
      refine z_imul X dX4_keep_14 ?_
      refine z_iload_n X 0 rfl rfl dX4_keep_15 ?_
      refine z_bipush X (n := 7) (by decide) dX4_keep_16 ?_
      refine z_irem X (by omega) (by omega) (by omega) (by omega) dX4_keep_18 ?_
      refine z_iadd X dX4_keep_19 ?_
      refine z_istore_n X [(2, .int (iZ ((40 * ((i) / 7)) + ((i) % 7)))), (1, .int (iZ (i))), (0, .ref (ad 0))] rfl rfl (by decide) dX4_keep_20 ?_
      refine z_aload_n X 2 rfl rfl dX4_keep_21 ?_
      refine z_get X zinX4 0 (by omega) gM_O (ci := 6) rfl 2 (by decide) (ref := "TowerFieldsModel") zw673 rfl rfl dX4_keep_22 ?_
      refine z_bipush X (n := 49) (by decide) dX4_keep_25 ?_
      refine z_aload_n X 2 rfl rfl dX4_keep_27 ?_
      refine z_get X zinX4 0 (by omega) gM_O (ci := 6) rfl 1 (by decide) (ref := "TowerFieldsModel") zw672 rfl rfl dX4_keep_28 ?_
      refine z_eqi (b := T.2.2.2.1) hmd0 ?_
      refine z_imul X dX4_keep_31 ?_
      refine z_iload_n X 1 rfl rfl dX4_keep_32 ?_
      refine z_iadd X dX4_keep_33 ?_
      refine z_aload_n X 2 rfl rfl dX4_keep_34 ?_
      refine z_get X zinX4 0 (by omega) gM_O (ci := 6) rfl 12 (by decide) (ref := "TowerFieldsModel") zw683 rfl rfl dX4_keep_35 ?_
      refine z_iload_n X 0 rfl rfl dX4_keep_38 ?_
      refine zn_ld X (by decide) 880 rfl (by omega) (by omega) (M.1 10 ((40 * ((i) / 7)) + ((i) % 7)).toNat) (by rw [fa_ne _ _ (by omega), fa_ne _ _ (by omega)]) dX4_keep_39 ?_
      refine zn_st X (by decide) 5880 rfl (by omega) (by omega) (M.1 10 ((40 * ((i) / 7)) + ((i) % 7)).toNat) rfl (fa (fa M 1 ((va_up f ((49 * T.2.2.2.1) + i).toNat (M.1 10 ((40 * ((i) / 7)) + ((i) % 7)).toNat)))) 2 g) (fa_st2 _ _ _ _ _ (by omega)) dX4_keep_40 ?_
      refine z_aload_n X 2 rfl rfl dX4_keep_41 ?_
      refine z_get X zinX4 0 (by omega) gM_O (ci := 6) rfl 3 (by decide) (ref := "TowerFieldsModel") zw674 rfl rfl dX4_keep_42 ?_
      refine z_bipush X (n := 49) (by decide) dX4_keep_45 ?_
      refine z_aload_n X 2 rfl rfl dX4_keep_47 ?_
      refine z_get X zinX4 0 (by omega) gM_O (ci := 6) rfl 1 (by decide) (ref := "TowerFieldsModel") zw672 rfl rfl dX4_keep_48 ?_
      refine z_eqi (b := T.2.2.2.1) hmd0 ?_
      refine z_imul X dX4_keep_51 ?_
      refine z_iload_n X 1 rfl rfl dX4_keep_52 ?_
      refine z_iadd X dX4_keep_53 ?_
      refine z_aload_n X 2 rfl rfl dX4_keep_54 ?_
      refine z_get X zinX4 0 (by omega) gM_O (ci := 6) rfl 13 (by decide) (ref := "TowerFieldsModel") zw684 rfl rfl dX4_keep_55 ?_
      refine z_iload_n X 0 rfl rfl dX4_keep_58 ?_
      refine zn_ld X (by decide) 880 rfl (by omega) (by omega) (M.1 11 ((40 * ((i) / 7)) + ((i) % 7)).toNat) (by rw [fa_ne _ _ (by omega), fa_ne _ _ (by omega)]) dX4_keep_59 ?_
      refine zn_st X (by decide) 5880 rfl (by omega) (by omega) (M.1 11 ((40 * ((i) / 7)) + ((i) % 7)).toNat) rfl (fa (fa M 1 ((va_up f ((49 * T.2.2.2.1) + i).toNat (M.1 10 ((40 * ((i) / 7)) + ((i) % 7)).toNat)))) 2 ((va_up g ((49 * T.2.2.2.1) + i).toNat (M.1 11 ((40 * ((i) / 7)) + ((i) % 7)).toNat)))) (fa_st _ _ _ _ _) dX4_keep_60 ?_
      refine z_iinc X [(1, .int (iZ (i + 1))), (2, .int (iZ ((40 * ((i) / 7)) + ((i) % 7)))), (0, .ref (ad 0))] 1 rfl rfl (by decide) dX4_keep_61 ?_
      refine z_goto X (tgt := 2) dX4_keep_64 (by decide) ?_
      refine ihloop (i + 1) _ _ _ [0, 2] (by omega) (by omega) (fun z hz => ?_) (fun z hz => ?_) (fun j hj => ?_) (fun j hj => ?_) rfl
      · rw [va_up_ne _ _ (by omega)]; exact b1 z hz
      · rw [va_up_ne _ _ (by omega)]; exact b2 z hz
      · by_cases e : j = i.toNat
        · rw [e, show 49 * T.2.2.2.1.toNat + i.toNat = (49 * T.2.2.2.1 + i).toNat by omega, va_up_self]
          exact congrArg (M.1 10) (by omega)
        · rw [va_up_ne _ _ (by omega)]; exact b3 j (by omega)
      · by_cases e : j = i.toNat
        · rw [e, show 49 * T.2.2.2.1.toNat + i.toNat = (49 * T.2.2.2.1 + i).toNat by omega, va_up_self]
          exact congrArg (M.1 11) (by omega)
        · rw [va_up_ne _ _ (by omega)]; exact b4 j (by omega)
  exact loop 49 (0) (M.1 1) (M.1 2) _ [0, 1] (by omega) (by omega) (fun z hz => rfl) (fun z hz => rfl) (fun j hj => by omega) (fun j hj => by omega) rfl
theorem q_keep {U V : Type} [Lean.Grind.CommRing U] [Lean.Grind.CommRing V] {cu : U → Nat → FP} {ca : V → Nat → U} (HU : mp_P cu) (HA : mp_P ca) (l : Launch) {D : va_G} {ad : Nat → Nat} {cI : ClassId} {F : Nat → V} {T : zTM} {M : zM} (hO : zO cu ca F T M) {EL : Int → V × V} {md kd : Int} {W sD : V} {cd : Int} (hG : mG cu ca EL md kd W sD cd F T) (hS : mSl cu ca kd W sD ∧ (0 ≤ kd ∧ kd ≤ 2)) (hlt : md < 120) {p q : V} (e10 : F 10 = p) (e11 : F 11 = q) (hb10 : mk_box cu ca p) (hb11 : mk_box cu ca q) : zMi l yX4_keep cX4_keep 3 (some .int) 0 D (zTyM cI) 18 ad [.ref (ad 0)] (gM ad cI M) (gM ad cI) (fun z u => z = md ∧ zGm cu ca (zUp EL md (p, q)) (md + 1) kd W sD cd u) := by
  subst e10
  subst e11
  obtain ⟨hE, h1, h2, h3, h4⟩ := hG
  subst h2
  refine zMi_mono (c_X4_keep HU HA l hO hE hlt hb10 hb11) ?_
  rintro z u ⟨q1, f, g, q2, q3, q4, q5, q6⟩
  exact ⟨q1, ⟨F, _, q2, mEls_up hE hlt q3 q4 q5 q6 _ _, h1, rfl, h3, h4⟩, hS⟩
set_option maxHeartbeats 8000000 in
set_option maxRecDepth 100000 in
theorem q_made {U V : Type} [Lean.Grind.CommRing U] [Lean.Grind.CommRing V] {cu : U → Nat → FP} {ca : V → Nat → U} (HU : mp_P cu) (HA : mp_P ca) (l : Launch) {D : va_G} {ad : Nat → Nat} {cI : ClassId} {F : Nat → V} {T : zTM} {M : zM} (hO : zO cu ca F T M) {EL : Int → V × V} {md kd : Int} {W sD : V} {cd : Int} (hG : mG cu ca EL md kd W sD cd F T) (hS : mSl cu ca kd W sD ∧ (0 ≤ kd ∧ kd ≤ 2)) (hlt : md < 120) (hb0 : F 11 ≠ 0) (ba : zbb cu ca 15 34 (F 10)) (bb : zbb cu ca 15 34 (F 11)) (tg : Int) : zMi l yX4_made cX4_made 2 (some .int) 3 D (zTyM cI) 18 ad [.ref (ad 0), .int (iZ (tg))] (gM ad cI M) (gM ad cI) (fun z u => (z = md ∧ ∃ p q, zLow cu ca (F 10) (F 11) p q ∧ zFits cu ca p q ∧ zGm cu ca (zUp EL md (p, q)) (md + 1) kd W sD 0 u) ∨ ((∃ p q, zLow cu ca (F 10) (F 11) p q ∧ ¬ zFits cu ca p q) ∧ zGm cu ca EL md kd W sD tg u)) := by
  refine z_goi zm_X4_made (Nat.le_of_ble_eq_true rfl) [(0, .ref (ad 0)), (1, .int (iZ (tg)))] rfl (fun p e s m args below meth c A Q X E => ?_)
  refine z_aload_n X 0 rfl rfl dX4_made_0 ?_
  refine z_callVi X zm_X4_reduce zw810 zp35 zw808 (zFit_of (by decide) (by decide)) [] (q_reduce HU HA l hO hb0 ba bb) rfl rfl (Nat.le_of_ble_eq_true rfl) (by omega) gM_O (q := vwCl[6]) rfl rfl dX4_made_1 (fun z1 S1 hz1 => ?_)
  have hy1 : z1 = 0 ∨ z1 = 1 := hz1.elim (fun q => Or.inr q.1) (fun q => Or.inl q.1)
  refine z_if_ne X (tgt := 13) (by omega) dX4_made_4 (by decide) (fun hb4 => ?_) (fun hb4 => ?_)
  · obtain ⟨p, q, hlow, hbp, hbq, hO1⟩ : ∃ p q, zLow cu ca (F 10) (F 11) p q ∧ mk_box cu ca p ∧ mk_box cu ca q ∧ zO cu ca (va_up (va_up F 10 p) 11 q) T S1 := by
      rcases hz1 with q | q
      · exact q.2
      · exact absurd q.1 (by omega)
    have hO2 := zO_code hO1 0
    have hG2 := mG_code (mG_F hG (F9 := va_up (va_up F 10 p) 11 q) (by rw [va_up_ne _ _ (by omega), va_up_ne _ _ (by omega)]) (by rw [va_up_ne _ _ (by omega), va_up_ne _ _ (by omega)])) 0
    refine z_aload_n X 0 rfl rfl dX4_made_13 ?_
    refine z_iconst X (n := 0) dX4_made_14 ?_
    refine zn_pcode X dX4_made_15 ?_
    refine z_aload_n X 0 rfl rfl dX4_made_18 ?_
    refine z_callVi X zm_X4_keep zw759 zp28 zw757 (zFit_of (by decide) (by decide)) [] (q_keep HU HA l hO2 hG2 hS hlt (p := p) (q := q) (by rw [va_up_ne _ _ (by omega), va_up_self]) (by rw [va_up_self]) hbp hbq) rfl rfl (Nat.le_of_ble_eq_true rfl) (by omega) gM_O (q := vwCl[6]) rfl rfl dX4_made_19 (fun z3 S3 hz3 => ?_)
    exact E S3 (Or.inl ⟨hz3.1, p, q, hlow, ⟨hbp, hbq⟩, hz3.2⟩) rfl dX4_made_22
  · obtain ⟨pf, hO1⟩ : (∃ p q, zLow cu ca (F 10) (F 11) p q ∧ ¬ (mk_box cu ca p ∧ mk_box cu ca q)) ∧ zO cu ca F T S1 := by
      rcases hz1 with q | q
      · exact absurd q.1 (by omega)
      · exact q.2
    refine z_aload_n X 0 rfl rfl dX4_made_7 ?_
    refine z_iload_n X 1 rfl rfl dX4_made_8 ?_
    refine z_callVi X zm_X4_raise zw783 zp32 zw781 (zFit_of (by decide) (by decide)) [.int (iZ (tg))] (c_X4_raise l S1 tg) rfl rfl (Nat.le_of_ble_eq_true rfl) (by omega) gM_O (q := vwCl[6]) rfl rfl dX4_made_9 (fun z2 S2 hz2 => ?_)
    exact E S2 (Or.inr ⟨pf, by rw [hz2.2]; exact zGm_code ⟨⟨F, T, hO1, hG⟩, hS⟩ tg⟩) rfl dX4_made_12
