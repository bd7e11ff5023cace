set_option maxHeartbeats 4000000 in
set_option maxRecDepth 100000 in
/-- division: what remains stays, the quotient beside -/
theorem c_X1_divideBy {U : Type} [Lean.Grind.CommRing U] {cu : U → Nat → FP} (HU : mp_P cu) (l : Launch) {D : va_G} {ad : Nat → Nat} {cI cO : ClassId} {P : Nat → U} {T : zRest} {S : zS} (hR : zR cu P T S) {k o u : Nat} (hk : k < 194) (ho : o < 194) (hu0 : u < 194) (hko : k ≠ o) (hku : k ≠ u) (hou : o ≠ u) : zMv l yX1_divideBy cX1_divideBy 6 1 D (zTy cI cO) 419 ad [.ref (ad (k + 31)), .ref (ad (o + 31)), .ref (ad (u + 31))] (gC ad cI cO S) (gC ad cI cO) (fun S9 => ∃ q r : U, P k = q * P o + r ∧ (P o ≠ 0 → mp_sz cu r < mp_sz cu (P o)) ∧ (P o = 0 → q = 0 ∧ r = P k) ∧ zR cu (va_up (va_up P u q) k r) T S9) := by
  have hok : o ≠ k := hko.symm
  have huk : u ≠ k := hku.symm
  have huo : u ≠ o := hou.symm
  have hsz := hR.2.2.2.2.1 k hk
  have hszo := hR.2.2.2.2.1 o ho
  refine z_gov zm_X1_divideBy (Nat.le_of_ble_eq_true rfl) [(0, .ref (ad (k + 31))), (1, .ref (ad (o + 31))), (2, .ref (ad (u + 31)))] rfl (fun p e s m args below meth c A Q X E => ?_)
  refine z_aload_n X 2 rfl rfl dX1_divideBy_0 ?_
  refine z_callVv X zm_X1_clear zw290 zw291 zw478 (zFit_of (by decide) (by decide)) [] (c_X1_clear HU l hR hu0) rfl rfl (Nat.le_of_ble_eq_true rfl) (by omega) (gC_L (by omega)) (q := vwCl[3]) rfl rfl dX1_divideBy_1 (fun S0 hu1 => ?_)
  have hdo := hu1.2.2.2.1 o ho
  rw [va_up_ne _ _ hou] at hdo
  have hdk := hu1.2.2.2.1 k hk
  rw [va_up_ne _ _ hku] at hdk
  refine z_aload_n X 1 rfl rfl dX1_divideBy_4 ?_
  refine zl_deg X (by omega) ((mp_sz cu (P o) : Int) - 1) hdo dX1_divideBy_5 ?_
  refine z_if_ge X (tgt := 12) (by omega) dX1_divideBy_8 (by decide) (fun hb8 => ?_) (fun hb8 => ?_)
  · refine z_aload_n X 1 rfl rfl dX1_divideBy_12 ?_
    refine z_aload_n X 1 rfl rfl dX1_divideBy_13 ?_
    refine zl_deg X (by omega) ((mp_sz cu (P o) : Int) - 1) hdo dX1_divideBy_14 ?_
    refine z_callVi X zm_X1_get zw301 zw302 zw400 (zFit_of (by decide) (by decide)) [.int (iZ ((mp_sz cu (P o) : Int) - 1))] (c_X1_getn HU l hu1 ho (i := (mp_sz cu (P o) : Int) - 1) (by omega) (by omega)) rfl rfl (Nat.le_of_ble_eq_true rfl) (by omega) (gC_L (by omega)) (q := vwCl[3]) rfl rfl dX1_divideBy_17 (fun z _ hz => ?_)
    rw [va_up_ne _ _ hou] at hz
    subst hz
    refine z_callSNi X zm_X3_inverse zw279 (List.mem_of_getElem? (i := 7) rfl) (zFit_of (by decide) (by decide)) [.int (iZ (vz (cu (P o) ((mp_sz cu (P o) : Int) - 1).toNat)))] (c_X3_inverse l (gC ad cI cO S0) (cu (P o) ((mp_sz cu (P o) : Int) - 1).toNat)) rfl rfl (Nat.le_of_ble_eq_true rfl) dX1_divideBy_20 (fun z _ hz => ?_)
    subst hz
    obtain ⟨y, hyd⟩ : ∃ y : FP, y = mf_inv (cu (P o) ((mp_sz cu (P o) : Int) - 1).toNat) := ⟨_, rfl⟩
    rw [← hyd]
    have hO : P o ≠ 0 := fun q => by rw [(mp_sz_0 HU).mpr q] at hb8; omega
    have hlc : cu (P o) (mp_sz cu (P o) - 1) ≠ 0 := mp_lc_ne HU hO
    rw [show ((mp_sz cu (P o) : Int) - 1).toNat = mp_sz cu (P o) - 1 by omega] at hyd
    have hy : cu (P o) (mp_sz cu (P o) - 1) * y = 1 := by rw [hyd]; exact mf_mul_inv hlc
    have hy0 : y ≠ 0 := by rw [hyd]; exact mf_inv_ne hlc
    refine z_istore_n X [(3, .int (iZ (vz y))), (0, .ref (ad (k + 31))), (1, .ref (ad (o + 31))), (2, .ref (ad (u + 31)))] rfl rfl (by decide) dX1_divideBy_23 ?_
    refine z_aload_n X 1 rfl rfl dX1_divideBy_24 ?_
    refine zl_deg X (by omega) ((mp_sz cu (P k) : Int) - 1) hdk dX1_divideBy_25 ?_
    refine z_aload_n X 2 rfl rfl dX1_divideBy_28 ?_
    refine zl_deg X (by omega) ((mp_sz cu (P o) : Int) - 1) hdo dX1_divideBy_29 ?_
    refine z_isub X dX1_divideBy_32 ?_
    refine z_istore X [(4, .int (iZ (((mp_sz cu (P k) : Int) - 1) - ((mp_sz cu (P o) : Int) - 1)))), (3, .int (iZ (vz y))), (0, .ref (ad (k + 31))), (1, .ref (ad (o + 31))), (2, .ref (ad (u + 31)))] rfl (by decide) dX1_divideBy_33 ?_
    have loop : ∀ (n : Nat) (i : Int) (q r : U) (S1 : zS) (lv : List (Nat × Value)) (ks : List Nat), i + 1 = n → i < 52 → i + mp_sz cu (P o) ≤ 52 → zR cu (va_up (va_up P u q) k r) T S1 → P k = q * P o + r → (mp_sz cu r : Int) ≤ i + mp_sz cu (P o) → (∀ j : Nat, j ≤ i → cu q j = 0) → lv_pick lv ks = [(4, .int (iZ (i))), (3, .int (iZ (vz y))), (0, .ref (ad (k + 31))), (1, .ref (ad (o + 31))), (2, .ref (ad (u + 31)))] → Z p l e (zRm 1) s m args below meth c 6 D 419 ad A 0 0 Q 35 lv [] (gC ad cI cO S1) := by
      intro n
      induction n with
      | zero =>
        intro i q r S1 lv ks h1 h2 h2b h3 h4 h5 h6 hlv
        refine z_sub ks hlv ?_
        refine z_iload X 0 rfl dX1_divideBy_35 ?_
        refine z_if_lt X (tgt := 91) (by omega) dX1_divideBy_37 (by decide) (fun hb37 => ?_) (fun hb37 => absurd hb37 (by omega))
        exact E S1 ⟨q, r, h4, fun _ => by omega, fun hz => absurd hz hO, h3⟩ rfl dX1_divideBy_91
      | succ n ih =>
        intro i q r S1 lv ks h1 h2 h2b h3 h4 h5 h6 hlv
        refine z_sub ks hlv ?_
        have hdo := h3.2.2.2.1 o ho
        rw [va_up_ne _ _ hok, va_up_ne _ _ hou] at hdo
        obtain ⟨t, ht⟩ : ∃ t : Nat, (t : Int) = i + (mp_sz cu (P o) - 1 : Int) := ⟨(i + (mp_sz cu (P o) - 1 : Int)).toNat, by omega⟩
        obtain ⟨v, hv⟩ : ∃ v : FP, v = cu r t * y := ⟨_, rfl⟩
        have hv0 := vz_nn v
        have hv1 := vz_lt v
        have hi0 : 0 ≤ i := by omega
        refine z_iload X 0 rfl dX1_divideBy_35 ?_
        refine z_if_lt X (tgt := 91) (by omega) dX1_divideBy_37 (by decide) (fun hb37 => absurd hb37 (by omega)) (fun hb37 => ?_)
        refine z_aload_n X 2 rfl rfl dX1_divideBy_40 ?_
        refine z_iload X 0 rfl dX1_divideBy_41 ?_
        refine z_aload_n X 3 rfl rfl dX1_divideBy_43 ?_
        refine zl_deg X (by omega) ((mp_sz cu (P o) : Int) - 1) hdo dX1_divideBy_44 ?_
        refine z_iadd X dX1_divideBy_47 ?_
        refine z_callVi X zm_X1_get zw301 zw302 zw400 (zFit_of (by decide) (by decide)) [.int (iZ (i + ((mp_sz cu (P o) : Int) - 1)))] (c_X1_getn HU l h3 hk (i := i + ((mp_sz cu (P o) : Int) - 1)) (by omega) (by omega)) rfl rfl (Nat.le_of_ble_eq_true rfl) (by omega) (gC_L (by omega)) (q := vwCl[3]) rfl rfl dX1_divideBy_48 (fun z _ hz => ?_)
        rw [va_up_self, show (i + ((mp_sz cu (P o) : Int) - 1)).toNat = t by omega] at hz
        subst hz
        have m0 := @vz_mul_nn (cu r t) y
        have m1 := @vz_mul_lt (cu r t) y
        refine z_iload_n X 1 rfl rfl dX1_divideBy_51 ?_
        refine z_imul X dX1_divideBy_52 ?_
        refine z_sipush X (n := 32003) (by decide) dX1_divideBy_53 ?_
        refine z_irem X (by omega) (by omega) (by omega) (by omega) dX1_divideBy_56 ?_
        refine z_eqi (b := vz v) (by rw [vz_m, hv]) ?_
        refine z_istore X [(5, .int (iZ (vz v))), (4, .int (iZ (i))), (3, .int (iZ (vz y))), (0, .ref (ad (k + 31))), (1, .ref (ad (o + 31))), (2, .ref (ad (u + 31)))] rfl (by decide) dX1_divideBy_57 ?_
        refine z_iload X 0 rfl dX1_divideBy_59 ?_
        refine z_if_eq X (tgt := 85) (by omega) dX1_divideBy_61 (by decide) (fun hb61 => ?_) (fun hb61 => ?_)
        · refine z_iinc X [(4, .int (iZ (i + -1))), (5, .int (iZ (vz v))), (3, .int (iZ (vz y))), (0, .ref (ad (k + 31))), (1, .ref (ad (o + 31))), (2, .ref (ad (u + 31)))] 1 rfl rfl (by decide) dX1_divideBy_85 ?_
          refine z_goto X (tgt := 35) dX1_divideBy_88 (by decide) ?_
          have hvz : v = 0 := vz_z.mp hb61
          refine ih (i + -1) q r S1 _ [0, 2, 3, 4, 5] (by omega) (by omega) (by omega) h3 h4 ?_ (fun j hj => h6 j (by omega)) rfl
          have hrt : cu r t = 0 := by
            rw [hvz] at hv
            rcases mf_nz hv.symm with h9 | h9
            · exact h9
            · exact absurd h9 hy0
          have := mp_sz_le HU (a := r) (M := t) (fun j hj => by
            by_cases hjt : j = t
            · rw [hjt]; exact hrt
            · exact mp_sz_out HU (by omega))
          omega
        · refine z_aload_n X 5 rfl rfl dX1_divideBy_64 ?_
          refine z_iload X 1 rfl dX1_divideBy_65 ?_
          refine z_iload X 0 rfl dX1_divideBy_67 ?_
          refine z_callVv X zm_X1_put zw117 zw118 zw455 (zFit_of (by decide) (by decide)) [.int (iZ (i)), .int (iZ (vz v))] (c_X1_put HU l h3 hu0 (i := i) (by omega) (by omega) v) rfl rfl (Nat.le_of_ble_eq_true rfl) (by omega) (gC_L (by omega)) (q := vwCl[3]) rfl rfl dX1_divideBy_69 (fun S2 hu => ?_)
          have hq0 := h6 i.toNat (by omega)
          rw [va_up_ne _ _ huk, va_up_self, va_uc _ hku] at hu
          rw [va_uu] at hu
          refine z_aload_n X 3 rfl rfl dX1_divideBy_72 ?_
          refine z_aload_n X 4 rfl rfl dX1_divideBy_73 ?_
          refine z_sipush X (n := 32003) (by decide) dX1_divideBy_74 ?_
          refine z_iload X 0 rfl dX1_divideBy_77 ?_
          refine z_isub X dX1_divideBy_79 ?_
          refine z_eqi (vz_neg (fun q => hb61 (by rw [q]; rfl))) ?_
          refine z_iload X 1 rfl dX1_divideBy_80 ?_
          refine z_callVv X zm_X1_plusShifted zw402 zw403 zw401 (zFit_of (by decide) (by decide)) [.ref (ad (o + 31)), .int (iZ (vz (-v))), .int (iZ (i))] (c_X1_plusShifted HU l hu hk ho hko (-v) (sh := i) (by omega) (by omega) (by rw [va_up_ne _ _ hok, va_up_ne _ _ hou]; omega)) rfl rfl (Nat.le_of_ble_eq_true rfl) (by omega) (gC_L (by omega)) (q := vwCl[3]) rfl rfl dX1_divideBy_82 (fun S3 hu3 => ?_)
          rw [va_uu, va_up_self, va_up_ne _ _ hok, va_up_ne _ _ hou] at hu3
          refine z_iinc X [(4, .int (iZ (i + -1))), (5, .int (iZ (vz v))), (3, .int (iZ (vz y))), (0, .ref (ad (k + 31))), (1, .ref (ad (o + 31))), (2, .ref (ad (u + 31)))] 1 rfl rfl (by decide) dX1_divideBy_85 ?_
          refine z_goto X (tgt := 35) dX1_divideBy_88 (by decide) ?_
          have hvne : v ≠ 0 := fun q => hb61 (by rw [q]; rfl)
          have hpu : pu cu q i.toNat v = q + mp_m cu v i.toNat := by rw [pu, hq0]; congr 2; grind
          refine ih (i + -1) _ _ S3 _ [0, 2, 3, 4, 5] (by omega) (by omega) (by omega) hu3 ?_ ?_ (fun j hj => ?_) rfl
          · clear ih
            rw [hpu]
            have e1 : mp_m cu (-v) i.toNat = -mp_m cu v i.toNat := mp_ext HU (fun j => by rw [mp_neg HU, mp_m_cf HU, mp_m_cf HU]; split <;> grind)
            rw [e1]
            grind
          · have := mp_sz_le HU (a := r + mp_m cu (-v) i.toNat * P o) (M := t) (fun j hj => by
              rw [mp_add HU, mp_m_mul HU]
              by_cases hjt : j = t
              · rw [hjt, if_pos (by omega), show t - i.toNat = mp_sz cu (P o) - 1 by omega, hv]
                have : cu (P o) (mp_sz cu (P o) - 1) * y = 1 := hy
                clear ih
                grind
              · rw [mp_sz_out HU (a := r) (by omega), if_pos (by omega), mp_sz_out HU (a := P o) (by omega)]
                clear ih
                grind)
            omega
          · rw [hpu, mp_add HU, h6 j (by omega), mp_m_cf HU, if_neg (by omega)]
            clear ih
            grind
    by_cases hneg : (mp_sz cu (P k) : Int) - 1 - ((mp_sz cu (P o) : Int) - 1) < 0
    · refine z_iload X 0 rfl dX1_divideBy_35 ?_
      refine z_if_lt X (tgt := 91) (by omega) dX1_divideBy_37 (by decide) (fun hb37 => ?_) (fun hb37 => absurd hb37 (by omega))
      exact E S0 ⟨0, P k, by grind, fun _ => by omega, fun hz => absurd hz hO, (by rw [va_uc _ huk, va_us]; exact hu1)⟩ rfl dX1_divideBy_91
    · exact loop ((mp_sz cu (P k) : Int) - 1 - ((mp_sz cu (P o) : Int) - 1) + 1).toNat _ 0 (P k) S0 _ [0, 1, 2, 3, 4] (by omega) (by omega) (by omega) (by rw [va_uc _ huk, va_us]; exact hu1) (by grind) (by omega) (fun j _ => mp_zero HU j) rfl
  · exact E S0 ⟨0, P k, by grind, fun hz => absurd ((mp_sz_0 HU).mp (by omega)) hz, fun _ => ⟨rfl, rfl⟩, (by rw [va_uc _ huk, va_us]; exact hu1)⟩ rfl dX1_divideBy_11
set_option maxHeartbeats 4000000 in
set_option maxRecDepth 100000 in
/-- the monic greatest common divisor; the other two are used up -/
theorem c_X1_meet {U : Type} [Lean.Grind.CommRing U] {cu : U → Nat → FP} (HU : mp_P cu) (l : Launch) {D : va_G} {ad : Nat → Nat} {cI cO : ClassId} {P : Nat → U} {T : zRest} {S : zS} (hR : zR cu P T S) {k o u : Nat} (hk : k < 194) (ho : o < 194) (hu0 : u < 194) (hko : k ≠ o) (hku : k ≠ u) (hou : o ≠ u) : zMv l yX1_meet cX1_meet 4 2 D (zTy cI cO) 419 ad [.ref (ad (k + 31)), .ref (ad (o + 31)), .ref (ad (u + 31))] (gC ad cI cO S) (gC ad cI cO) (fun S9 => ∃ (P9 : Nat → U) (h : U), mq_mg cu (P k) (P o) h ∧ zR cu P9 T S9 ∧ P9 k = h ∧ ∀ j, j ≠ k → j ≠ o → j ≠ u → P9 j = P j) := by
  refine z_gov zm_X1_meet (Nat.le_of_ble_eq_true rfl) [(0, .ref (ad (k + 31))), (1, .ref (ad (o + 31))), (2, .ref (ad (u + 31)))] rfl (fun p e s m args below meth c A Q X E => ?_)
  have loop : ∀ (n : Nat) (i : Int) (P1 : Nat → U) (S1 : zS), mp_sz cu (P1 o) ≤ n → 0 ≤ i → i + mp_sz cu (P1 o) ≤ 60 → zR cu P1 T S1 → (∀ j, j ≠ k → j ≠ o → j ≠ u → P1 j = P j) → (∀ h, mp_G (P1 k) (P1 o) h → mp_G (P k) (P o) h) → Z p l e (zRm 2) s m args below meth c 4 D 419 ad A 0 0 Q 2 [(3, .int (iZ (i))), (0, .ref (ad (k + 31))), (1, .ref (ad (o + 31))), (2, .ref (ad (u + 31)))] [] (gC ad cI cO S1) := by
    intro n
    induction n with
    | zero =>
      intro i P1 S1 h1 h2 h3 h4 h5 h6
      have hz0 : P1 o = 0 := (mp_sz_0 HU).mp (by omega)
      refine z_iload_n X 0 rfl rfl dX1_meet_2 ?_
      refine z_bipush X (n := 104) (by decide) dX1_meet_3 ?_
      refine z_icmp_ge X (tgt := 32) (by omega) (by omega) dX1_meet_5 (by decide) (fun hb5 => absurd hb5 (by omega)) (fun hb5 => ?_)
      refine z_aload_n X 2 rfl rfl dX1_meet_8 ?_
      refine zl_deg X (by omega) ((mp_sz cu (P1 o) : Int) - 1) (h4.2.2.2.1 o ho) dX1_meet_9 ?_
      refine z_if_lt X (tgt := 32) (by omega) dX1_meet_12 (by decide) (fun hb12 => ?_) (fun hb12 => absurd hb12 (by omega))
      refine z_aload_n X 1 rfl rfl dX1_meet_32 ?_
      refine z_aload_n X 1 rfl rfl dX1_meet_33 ?_
      refine z_aload_n X 1 rfl rfl dX1_meet_34 ?_
      refine zl_deg X (by omega) ((mp_sz cu (P1 k) : Int) - 1) (h4.2.2.2.1 k hk) dX1_meet_35 ?_
      refine z_callVi X zm_X1_get zw301 zw302 zw400 (zFit_of (by decide) (by decide)) [.int (iZ ((mp_sz cu (P1 k) : Int) - 1))] (c_X1_get HU l h4 hk (i := (mp_sz cu (P1 k) : Int) - 1) (by have := h4.2.2.2.2.1 k hk; omega)) rfl rfl (Nat.le_of_ble_eq_true rfl) (by omega) (gC_L (by omega)) (q := vwCl[3]) rfl rfl dX1_meet_38 (fun z _ hz => ?_)
      have hz1 : z = vz (mp_lc cu (P1 k)) := by
        rw [hz, mp_lc]
        by_cases h0 : mp_sz cu (P1 k) = 0
        · rw [if_neg (by omega), mp_sz_out HU (by omega)]; rfl
        · rw [if_pos (by omega), show ((mp_sz cu (P1 k) : Int) - 1).toNat = mp_sz cu (P1 k) - 1 by omega]
      subst hz1
      refine z_callSNi X zm_X3_inverse zw279 (List.mem_of_getElem? (i := 7) rfl) (zFit_of (by decide) (by decide)) [.int (iZ (vz (mp_lc cu (P1 k))))] (c_X3_inverse l (gC ad cI cO S1) (mp_lc cu (P1 k))) rfl rfl (Nat.le_of_ble_eq_true rfl) dX1_meet_41 (fun z _ hz2 => ?_)
      subst hz2
      refine z_callVv X zm_X1_scale zw452 zw453 zw500 (zFit_of (by decide) (by decide)) [.int (iZ (vz (mf_inv (mp_lc cu (P1 k)))))] (c_X1_scale HU l h4 hk (mf_inv (mp_lc cu (P1 k)))) rfl rfl (Nat.le_of_ble_eq_true rfl) (by omega) (gC_L (by omega)) (q := vwCl[3]) rfl rfl dX1_meet_44 (fun S2 hu2 => ?_)
      exact E S2 ⟨_, mp_C cu (mf_inv (mp_lc cu (P1 k))) * P1 k, pq_mg HU (h6 _ (by rw [hz0]; exact pq_G_0 _)), hu2, va_up_self _ _ _, fun j j1 j2 j3 => by rw [va_up_ne _ _ j1]; exact h5 j j1 j2 j3⟩ rfl dX1_meet_47
    | succ n ih =>
      intro i P1 S1 h1 h2 h3 h4 h5 h6
      refine z_iload_n X 0 rfl rfl dX1_meet_2 ?_
      refine z_bipush X (n := 104) (by decide) dX1_meet_3 ?_
      refine z_icmp_ge X (tgt := 32) (by omega) (by omega) dX1_meet_5 (by decide) (fun hb5 => absurd hb5 (by omega)) (fun hb5 => ?_)
      refine z_aload_n X 2 rfl rfl dX1_meet_8 ?_
      refine zl_deg X (by omega) ((mp_sz cu (P1 o) : Int) - 1) (h4.2.2.2.1 o ho) dX1_meet_9 ?_
      refine z_if_lt X (tgt := 32) (by omega) dX1_meet_12 (by decide) (fun hb12 => ?_) (fun hb12 => ?_)
      · have hz0 : P1 o = 0 := (mp_sz_0 HU).mp (by omega)
        refine z_aload_n X 1 rfl rfl dX1_meet_32 ?_
        refine z_aload_n X 1 rfl rfl dX1_meet_33 ?_
        refine z_aload_n X 1 rfl rfl dX1_meet_34 ?_
        refine zl_deg X (by omega) ((mp_sz cu (P1 k) : Int) - 1) (h4.2.2.2.1 k hk) dX1_meet_35 ?_
        refine z_callVi X zm_X1_get zw301 zw302 zw400 (zFit_of (by decide) (by decide)) [.int (iZ ((mp_sz cu (P1 k) : Int) - 1))] (c_X1_get HU l h4 hk (i := (mp_sz cu (P1 k) : Int) - 1) (by have := h4.2.2.2.2.1 k hk; omega)) rfl rfl (Nat.le_of_ble_eq_true rfl) (by omega) (gC_L (by omega)) (q := vwCl[3]) rfl rfl dX1_meet_38 (fun z _ hz => ?_)
        have hz1 : z = vz (mp_lc cu (P1 k)) := by
          rw [hz, mp_lc]
          by_cases h0 : mp_sz cu (P1 k) = 0
          · rw [if_neg (by omega), mp_sz_out HU (by omega)]; rfl
          · rw [if_pos (by omega), show ((mp_sz cu (P1 k) : Int) - 1).toNat = mp_sz cu (P1 k) - 1 by omega]
        subst hz1
        refine z_callSNi X zm_X3_inverse zw279 (List.mem_of_getElem? (i := 7) rfl) (zFit_of (by decide) (by decide)) [.int (iZ (vz (mp_lc cu (P1 k))))] (c_X3_inverse l (gC ad cI cO S1) (mp_lc cu (P1 k))) rfl rfl (Nat.le_of_ble_eq_true rfl) dX1_meet_41 (fun z _ hz2 => ?_)
        subst hz2
        refine z_callVv X zm_X1_scale zw452 zw453 zw500 (zFit_of (by decide) (by decide)) [.int (iZ (vz (mf_inv (mp_lc cu (P1 k)))))] (c_X1_scale HU l h4 hk (mf_inv (mp_lc cu (P1 k)))) rfl rfl (Nat.le_of_ble_eq_true rfl) (by omega) (gC_L (by omega)) (q := vwCl[3]) rfl rfl dX1_meet_44 (fun S2 hu2 => ?_)
        exact E S2 ⟨_, mp_C cu (mf_inv (mp_lc cu (P1 k))) * P1 k, pq_mg HU (h6 _ (by rw [hz0]; exact pq_G_0 _)), hu2, va_up_self _ _ _, fun j j1 j2 j3 => by rw [va_up_ne _ _ j1]; exact h5 j j1 j2 j3⟩ rfl dX1_meet_47
      · refine z_aload_n X 1 rfl rfl dX1_meet_15 ?_
        refine z_aload_n X 2 rfl rfl dX1_meet_16 ?_
        refine z_aload_n X 3 rfl rfl dX1_meet_17 ?_
        refine z_callVv X zm_X1_divideBy zw475 zw476 zw495 (zFit_of (by decide) (by decide)) [.ref (ad (o + 31)), .ref (ad (u + 31))] (c_X1_divideBy HU l h4 hk ho hu0 hko hku hou) rfl rfl (Nat.le_of_ble_eq_true rfl) (by omega) (gC_L (by omega)) (q := vwCl[3]) rfl rfl dX1_meet_18 (fun S3 hu3 => ?_)
        obtain ⟨q, r, hd1, hd2, -, hd4⟩ := hu3
        have hO : P1 o ≠ 0 := fun q => by rw [(mp_sz_0 HU).mpr q] at hb12; omega
        have hlt := hd2 hO
        refine z_aload_n X 1 rfl rfl dX1_meet_21 ?_
        refine z_aload_n X 2 rfl rfl dX1_meet_22 ?_
        refine z_callVv X zm_X1_exchange zw498 zp16 zw496 (zFit_of (by decide) (by decide)) [.ref (ad (o + 31))] (c_X1_exchange HU l hd4 hk ho hko) rfl rfl (Nat.le_of_ble_eq_true rfl) (by omega) (gC_L (by omega)) (q := vwCl[3]) rfl rfl dX1_meet_23 (fun S4 hu4 => ?_)
        rw [va_up_self, va_up_ne _ _ hko.symm, va_up_ne _ _ hou] at hu4
        refine z_iinc X [(3, .int (iZ (i + 1))), (0, .ref (ad (k + 31))), (1, .ref (ad (o + 31))), (2, .ref (ad (u + 31)))] 0 rfl rfl (by decide) dX1_meet_26 ?_
        refine z_goto X (tgt := 2) dX1_meet_29 (by decide) ?_
        refine z_sub [0, 1, 2, 3] rfl (ih (i + 1) _ S4 ?_ (by omega) ?_ hu4 ?_ ?_)
        · rw [va_up_self]; omega
        · rw [va_up_self]; omega
        · intro j j1 j2 j3
          rw [va_up_ne _ _ j2, va_up_ne _ _ j1, va_up_ne _ _ j1, va_up_ne _ _ j3]
          exact h5 j j1 j2 j3
        · intro h hg
          rw [va_up_self, va_up_ne _ _ hko, va_up_self] at hg
          exact h6 h (pq_G_step hd1 hg)
  refine z_iconst X (n := 0) dX1_meet_0 ?_
  refine z_istore_n X [(3, .int (iZ (0))), (0, .ref (ad (k + 31))), (1, .ref (ad (o + 31))), (2, .ref (ad (u + 31)))] rfl rfl (by decide) dX1_meet_1 ?_
  have hszo := hR.2.2.2.2.1 o ho
  exact loop (mp_sz cu (P o)) 0 P S (Nat.le_refl _) (by omega) (by omega) hR (fun _ _ _ _ => rfl) (fun _ h => h)
