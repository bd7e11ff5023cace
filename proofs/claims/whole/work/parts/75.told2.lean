set_option maxHeartbeats 8000000 in
set_option maxRecDepth 100000 in
theorem q_isLow {U V : Type} [Lean.Grind.CommRing U] [Lean.Grind.CommRing V] {cu : U → Nat → FP} {ca : V → Nat → U} (HU : mp_P cu) (HA : mp_P ca) (l : Launch) {D : va_G} {ad : Nat → Nat} {cI : ClassId} {F : Nat → V} {T : zTM} {M : zM} (hO : zO cu ca F T M) {EL : Int → V × V} {md kd : Int} {W sD : V} {cd : Int} (hG : mG cu ca EL md kd W sD cd F T) {n : Int} (hn : 0 ≤ n ∧ n < md) : zMi l yX4_isLow cX4_isLow 3 (some .boolean) 0 D (zTyM cI) 18 ad [.ref (ad 0), .int (iZ (n))] (gM ad cI M) (fun _ : Unit => gM ad cI M) (fun z _ => (z = 1 ∧ (mp_sz ca (EL n).1 ≤ 1 ∧ mp_sz ca (EL n).2 ≤ 1)) ∨ (z = 0 ∧ ¬ (mp_sz ca (EL n).1 ≤ 1 ∧ mp_sz ca (EL n).2 ≤ 1))) := by
  obtain ⟨x1a, x1b⟩ : mEl cu ca T.1 n (EL n).1 ∧ mEl cu ca T.2.1 n (EL n).2 := hG.1.2.2 n hn.1 (by rw [hG.2.2.1]; exact hn.2)
  have hm9 := hG.1.2.1
  rw [hG.2.2.1] at hm9
  have r1 := zO_r1 hO
  have r2 := zO_r2 hO
  have key : ∀ (x : V), mk_box cu ca x → (∀ k, 7 ≤ k → k < 49 → cu (ca x (k / 7)) (k % 7) = 0) → mp_sz ca x ≤ 1 := fun x q1 q3 => mp_sz_le HA (fun r hr => mp_ext HU (fun j => by
    rw [mp_zero HU]
    by_cases hr7 : r < 7
    · by_cases hj7 : j < 7
      · have := q3 (7 * r + j) (by omega) (by omega)
        rwa [show (7 * r + j) / 7 = r by omega, show (7 * r + j) % 7 = j by omega] at this
      · exact mp_sz_out HU (Nat.le_trans (mp_xz_row HU HA x r) (Nat.le_trans q1.2 (by omega)))
    · rw [mp_sz_out HA (a := x) (Nat.le_trans q1.1 (by omega)), mp_zero HU]))
  have yek : ∀ (x : V), mp_sz ca x ≤ 1 → ∀ k, 7 ≤ k → cu (ca x (k / 7)) (k % 7) = 0 := fun x q1 k hk => by rw [mp_sz_out HA (by omega), mp_zero HU]
  refine z_goz zm_X4_isLow (Nat.le_of_ble_eq_true rfl) [(0, .ref (ad 0)), (1, .int (iZ (n)))] rfl (fun p e s m args below meth c A Q X E => ?_)
  refine z_bipush X (n := 7) (by decide) dX4_isLow_0 ?_
  refine z_istore_n X [(2, .int (iZ (7))), (0, .ref (ad 0)), (1, .int (iZ (n)))] rfl rfl (by decide) dX4_isLow_2 ?_
  have loop : ∀ (kloop : Nat) (i : Int) (lv : List (Nat × Value)) (ks : List Nat), i + kloop = 49 → 7 ≤ i → (∀ k : Nat, 7 ≤ k → (k : Int) < i → cu (ca (EL n).1 (k / 7)) (k % 7) = 0 ∧ cu (ca (EL n).2 (k / 7)) (k % 7) = 0) → lv_pick lv ks = [(2, .int (iZ (i))), (0, .ref (ad 0)), (1, .int (iZ (n)))] → Z p l e (zRm 0) s m args below meth c 3 D 18 ad A 0 0 Q 3 lv [] (gM ad cI M) := by
    intro kloop
    induction kloop with
    | zero =>
      intro i  lv ks e1loop e2loop h3 hlvloop
      refine z_sub ks hlvloop ?_
      refine z_iload_n X 0 rfl rfl dX4_isLow_3 ?_
      refine z_bipush X (n := 49) (by decide) dX4_isLow_4 ?_
      refine z_icmp_ge X (tgt := 45) (by omega) (by omega) dX4_isLow_6 (by decide) (fun hb6 => ?_) (fun hb6 => absurd hb6 (by omega))
      refine z_iconst X (n := 1) dX4_isLow_45 ?_
      exact E () (Or.inr rfl) (Or.inl ⟨rfl, key _ x1a.2 (fun k h1 h2 => (h3 k h1 (by omega)).1), key _ x1b.2 (fun k h1 h2 => (h3 k h1 (by omega)).2)⟩) rfl dX4_isLow_46
    | succ kloop ihloop =>
      intro i  lv ks e1loop e2loop h3 hlvloop
      refine z_sub ks hlvloop ?_
      refine z_iload_n X 0 rfl rfl dX4_isLow_3 ?_
      refine z_bipush X (n := 49) (by decide) dX4_isLow_4 ?_
      refine z_icmp_ge X (tgt := 45) (by omega) (by omega) dX4_isLow_6 (by decide) (fun hb6 => absurd hb6 (by omega)) (fun hb6 => ?_)
      have ix : (49 * n + i).toNat = 49 * n.toNat + i.toNat := by omega
      have y1 : M.1 1 (49 * n + i).toNat = cu (ca (EL n).1 (i.toNat / 7)) (i.toNat % 7) := by rw [ix, r1]; exact x1a.1 _ (by omega)
      have y2 : M.1 2 (49 * n + i).toNat = cu (ca (EL n).2 (i.toNat / 7)) (i.toNat % 7) := by rw [ix, r2]; exact x1b.1 _ (by omega)
      have q1 := vz_nn (M.1 1 (49 * n + i).toNat)
      have q2 := vz_lt (M.1 1 (49 * n + i).toNat)
      have q3 := vz_nn (M.1 2 (49 * n + i).toNat)
      have q4 := vz_lt (M.1 2 (49 * n + i).toNat)
      have q5 := @vz_z (M.1 1 (49 * n + i).toNat)
      have q6 := @vz_z (M.1 2 (49 * n + i).toNat)
      refine z_aload_n X 1 rfl rfl dX4_isLow_9 ?_
      refine z_get X zinX4 0 (by omega) gM_O (ci := 6) rfl 2 (by decide) (ref := "TowerFieldsModel") zw673 rfl rfl dX4_isLow_10 ?_
      refine z_bipush X (n := 49) (by decide) dX4_isLow_13 ?_
      refine z_iload_n X 2 rfl rfl dX4_isLow_15 ?_
      refine z_imul X dX4_isLow_16 ?_
      refine z_iload_n X 0 rfl rfl dX4_isLow_17 ?_
      refine z_iadd X dX4_isLow_18 ?_
      refine zn_ld X (by decide) 5880 rfl (by omega) (by omega) (M.1 1 ((49 * n) + i).toNat) rfl dX4_isLow_19 ?_
      refine z_if_ne X (tgt := 37) (by omega) dX4_isLow_20 (by decide) (fun hb20 => ?_) (fun hb20 => ?_)
      · refine z_iconst X (n := 0) dX4_isLow_37 ?_
        exact E () (Or.inl rfl) (Or.inr ⟨rfl, fun q => hb20 (q5.mpr (y1.trans (yek _ q.1 i.toNat (by omega))))⟩) rfl dX4_isLow_38
      · refine z_aload_n X 1 rfl rfl dX4_isLow_23 ?_
        refine z_get X zinX4 0 (by omega) gM_O (ci := 6) rfl 3 (by decide) (ref := "TowerFieldsModel") zw674 rfl rfl dX4_isLow_24 ?_
        refine z_bipush X (n := 49) (by decide) dX4_isLow_27 ?_
        refine z_iload_n X 2 rfl rfl dX4_isLow_29 ?_
        refine z_imul X dX4_isLow_30 ?_
        refine z_iload_n X 0 rfl rfl dX4_isLow_31 ?_
        refine z_iadd X dX4_isLow_32 ?_
        refine zn_ld X (by decide) 5880 rfl (by omega) (by omega) (M.1 2 ((49 * n) + i).toNat) rfl dX4_isLow_33 ?_
        refine z_if_eq X (tgt := 39) (by omega) dX4_isLow_34 (by decide) (fun hb34 => ?_) (fun hb34 => ?_)
        · refine z_iinc X [(2, .int (iZ (i + 1))), (0, .ref (ad 0)), (1, .int (iZ (n)))] 0 rfl rfl (by decide) dX4_isLow_39 ?_
          refine z_goto X (tgt := 3) dX4_isLow_42 (by decide) ?_
          refine ihloop (i + 1)  _ [0, 1, 2] (by omega) (by omega) (fun k h1 h2 => ?_) rfl
          by_cases e : k = i.toNat
          · rw [e, ← y1, ← y2]; exact ⟨q5.mp (by omega), q6.mp (by omega)⟩
          · exact h3 k h1 (by omega)
        · refine z_iconst X (n := 0) dX4_isLow_37 ?_
          exact E () (Or.inl rfl) (Or.inr ⟨rfl, fun q => hb34 (q6.mpr (y2.trans (yek _ q.2 i.toNat (by omega))))⟩) rfl dX4_isLow_38
  exact loop 42 (7)  _ [0, 1, 2] (by omega) (by omega) (fun k h1 h2 => by omega) rfl
set_option maxHeartbeats 8000000 in
set_option maxRecDepth 100000 in
theorem c_X4_low {U V : Type} [Lean.Grind.CommRing U] [Lean.Grind.CommRing V] {cu : U → Nat → FP} {ca : V → Nat → U} (HU : mp_P cu) (HA : mp_P ca) (l : Launch) {D : va_G} {ad : Nat → Nat} {cI : ClassId} {EL : Int → V × V} {md kd : Int} {W sD : V} {cd : Int} {M : zM} (hC : zGm cu ca EL md kd W sD cd M) {n : Int} (hn : -2147483648 ≤ n ∧ n < 2147483648) : zMi l yX4_low cX4_low 2 (some .boolean) 1 D (zTyM cI) 18 ad [.ref (ad 0), .int (iZ (n))] (gM ad cI M) (gM ad cI) (fun z u => (¬ (0 ≤ n ∧ n < md) ∧ zGm cu ca EL md kd W sD 1 u) ∨ ((0 ≤ n ∧ n < md) ∧ ((z = 1 ∧ (mp_sz ca (EL n).1 ≤ 1 ∧ mp_sz ca (EL n).2 ≤ 1)) ∨ (z = 0 ∧ ¬ (mp_sz ca (EL n).1 ≤ 1 ∧ mp_sz ca (EL n).2 ≤ 1))) ∧ zGm cu ca EL md kd W sD 0 u)) := by
  have hC0 := hC
  obtain ⟨⟨F, T, hO, hG⟩, hS⟩ := hC
  have hmd : M.2.2.2.1 = md := (zO_rm hO).trans hG.2.2.1
  have hkd : M.2.2.2.2.1 = kd := (zO_rk hO).trans hG.2.2.2.1
  have hm : 0 ≤ md ∧ md ≤ 120 := by
    have q1 := hG.1.1
    have q2 := hG.1.2.1
    rw [hG.2.2.1] at q1 q2
    exact ⟨q1, q2⟩
  have hel : ∀ n, 0 ≤ n → n < md → mEl cu ca T.1 n (EL n).1 ∧ mEl cu ca T.2.1 n (EL n).2 := fun n h0 h1 => hG.1.2.2 n h0 (by rw [hG.2.2.1]; exact h1)
  refine z_goz zm_X4_low (Nat.le_of_ble_eq_true rfl) [(0, .ref (ad 0)), (1, .int (iZ (n)))] rfl (fun p e s m args below meth c A Q X E => ?_)
  refine z_aload_n X 0 rfl rfl dX4_low_0 ?_
  refine z_aload_n X 0 rfl rfl dX4_low_1 ?_
  refine z_iload_n X 1 rfl rfl dX4_low_2 ?_
  refine z_callVi X zm_X4_isElement zw775 zp30 zw773 (zFit_of (by decide) (by decide)) [.int (iZ (n))] (c_X4_isElement l M hn hmd hm) rfl rfl (Nat.le_of_ble_eq_true rfl) (by omega) gM_O (q := vwCl[6]) rfl rfl dX4_low_3 (fun zE9 _ hzE => ?_)
  have hyE : zE9 = 0 ∨ zE9 = 1 := hzE.elim (fun q => Or.inr q.1) (fun q => Or.inl q.1)
  have hcE : (zE9 = 1 → (0 ≤ n ∧ n < md)) ∧ (zE9 = 0 → ¬ (0 ≤ n ∧ n < md)) := ⟨fun q => hzE.elim (fun r => r.2) (fun r => by omega), fun q => hzE.elim (fun r => by omega) (fun r => r.2)⟩
  refine z_if_eq X (tgt := 13) (by omega) dX4_low_6 (by decide) (fun hb6 => ?_) (fun hb6 => ?_)
  · refine z_iconst X (n := 1) dX4_low_13 ?_
    refine zn_pcode X dX4_low_14 ?_
    obtain ⟨S1, eS1⟩ : ∃ Sz, Sz = fcode M (1) := ⟨_, rfl⟩
    rw [← eS1]
    have O1 := zO_code hO (1)
    rw [← eS1] at O1
    have G1 := mG_code hG (1)
    have hcode1 : S1.2.2.1 = 1 := by rw [eS1]; rfl
    have hmd1 : S1.2.2.2.1 = md := (zO_rm O1).trans G1.2.2.1
    have hkd1 : S1.2.2.2.2.1 = kd := (zO_rk O1).trans G1.2.2.2.1
    refine z_aload_n X 0 rfl rfl dX4_low_17 ?_
    refine z_get X zinX4 0 (by omega) gM_O (ci := 6) rfl 0 (by decide) (ref := "TowerFieldsModel") zw671 rfl rfl dX4_low_18 ?_
    refine z_eqi (b := 1) hcode1 ?_
    refine z_if_ne X (tgt := 36) (by omega) dX4_low_21 (by decide) (fun hb21 => ?_) (fun hb21 => absurd hb21 (by omega))
    refine z_iconst X (n := 0) dX4_low_36 ?_
    exact E S1 (Or.inl rfl) (Or.inl ⟨hcE.2 (by omega), by rw [eS1]; exact zGm_code hC0 1⟩) rfl dX4_low_37
  · refine z_iconst X (n := 0) dX4_low_9 ?_
    refine z_goto X (tgt := 14) dX4_low_10 (by decide) ?_
    refine zn_pcode X dX4_low_14 ?_
    obtain ⟨S2, eS2⟩ : ∃ Sz, Sz = fcode M (0) := ⟨_, rfl⟩
    rw [← eS2]
    have O2 := zO_code hO (0)
    rw [← eS2] at O2
    have G2 := mG_code hG (0)
    have hcode2 : S2.2.2.1 = 0 := by rw [eS2]; rfl
    have hmd2 : S2.2.2.2.1 = md := (zO_rm O2).trans G2.2.2.1
    have hkd2 : S2.2.2.2.2.1 = kd := (zO_rk O2).trans G2.2.2.2.1
    refine z_aload_n X 0 rfl rfl dX4_low_17 ?_
    refine z_get X zinX4 0 (by omega) gM_O (ci := 6) rfl 0 (by decide) (ref := "TowerFieldsModel") zw671 rfl rfl dX4_low_18 ?_
    refine z_eqi (b := 0) hcode2 ?_
    refine z_if_ne X (tgt := 36) (by omega) dX4_low_21 (by decide) (fun hb21 => absurd hb21 (by omega)) (fun hb21 => ?_)
    refine z_aload_n X 0 rfl rfl dX4_low_24 ?_
    refine z_iload_n X 1 rfl rfl dX4_low_25 ?_
    refine z_callVi X zm_X4_isLow zw779 zp31 zw777 (zFit_of (by decide) (by decide)) [.int (iZ (n))] (q_isLow HU HA l O2 G2 (n := n) (hcE.1 (by omega))) rfl rfl (Nat.le_of_ble_eq_true rfl) (by omega) gM_O (q := vwCl[6]) rfl rfl dX4_low_26 (fun zL _ hzL => ?_)
    have hyL : zL = 0 ∨ zL = 1 := hzL.elim (fun q => Or.inr q.1) (fun q => Or.inl q.1)
    refine z_if_eq X (tgt := 36) (by omega) dX4_low_29 (by decide) (fun hb29 => ?_) (fun hb29 => ?_)
    · refine z_iconst X (n := 0) dX4_low_36 ?_
      exact E S2 (by omega) (Or.inr ⟨hcE.1 (by omega), by rcases hzL with q | q; exact absurd q.1 (by omega); exact Or.inr ⟨rfl, q.2⟩, by rw [eS2]; exact zGm_code hC0 0⟩) rfl dX4_low_37
    · refine z_iconst X (n := 1) dX4_low_32 ?_
      refine z_goto X (tgt := 37) dX4_low_33 (by decide) ?_
      exact E S2 (by omega) (Or.inr ⟨hcE.1 (by omega), by rcases hzL with q | q; exact Or.inl ⟨rfl, q.2⟩; exact absurd q.1 (by omega), by rw [eS2]; exact zGm_code hC0 0⟩) rfl dX4_low_37
set_option maxHeartbeats 8000000 in
set_option maxRecDepth 100000 in
theorem c_X4_at {U V : Type} [Lean.Grind.CommRing U] [Lean.Grind.CommRing V] {cu : U → Nat → FP} {ca : V → Nat → U} (HU : mp_P cu) (HA : mp_P ca) (l : Launch) {D : va_G} {ad : Nat → Nat} {cI : ClassId} {EL : Int → V × V} {md kd : Int} {W sD : V} {cd : Int} {M : zM} (hC : zGm cu ca EL md kd W sD cd M) {n : Int} (hn : -2147483648 ≤ n ∧ n < 2147483648) {i j h : Int} (hi : -2147483648 ≤ i ∧ i < 2147483648) (hj : -2147483648 ≤ j ∧ j < 2147483648) (hh : -2147483648 ≤ h ∧ h < 2147483648) : zMi l yX4_at cX4_at 5 (some .int) 1 D (zTyM cI) 18 ad [.ref (ad 0), .int (iZ (n)), .int (iZ (i)), .int (iZ (j)), .int (iZ (h))] (gM ad cI M) (gM ad cI) (fun z u => (¬ (0 ≤ n ∧ n < md) ∧ zGm cu ca EL md kd W sD 1 u) ∨ ((0 ≤ n ∧ n < md) ∧ ¬ ((0 ≤ i ∧ i ≤ 6) ∧ (0 ≤ j ∧ j ≤ 6) ∧ (0 ≤ h ∧ h ≤ 1)) ∧ zGm cu ca EL md kd W sD 2 u) ∨ ((0 ≤ n ∧ n < md) ∧ ((0 ≤ i ∧ i ≤ 6) ∧ (0 ≤ j ∧ j ≤ 6) ∧ (0 ≤ h ∧ h ≤ 1)) ∧ z = vz (cu (ca (if h = 0 then (EL n).1 else (EL n).2) i.toNat) j.toNat) ∧ zGm cu ca EL md kd W sD 0 u)) := by
  have hC0 := hC
  obtain ⟨⟨F, T, hO, hG⟩, hS⟩ := hC
  have hmd : M.2.2.2.1 = md := (zO_rm hO).trans hG.2.2.1
  have hkd : M.2.2.2.2.1 = kd := (zO_rk hO).trans hG.2.2.2.1
  have hm : 0 ≤ md ∧ md ≤ 120 := by
    have q1 := hG.1.1
    have q2 := hG.1.2.1
    rw [hG.2.2.1] at q1 q2
    exact ⟨q1, q2⟩
  have hel : ∀ n, 0 ≤ n → n < md → mEl cu ca T.1 n (EL n).1 ∧ mEl cu ca T.2.1 n (EL n).2 := fun n h0 h1 => hG.1.2.2 n h0 (by rw [hG.2.2.1]; exact h1)
  refine z_goi zm_X4_at (Nat.le_of_ble_eq_true rfl) [(0, .ref (ad 0)), (1, .int (iZ (n))), (2, .int (iZ (i))), (3, .int (iZ (j))), (4, .int (iZ (h)))] rfl (fun p e s m args below meth c A Q X E => ?_)
  refine z_aload_n X 0 rfl rfl dX4_at_0 ?_
  refine z_iload_n X 1 rfl rfl dX4_at_1 ?_
  refine z_callVi X zm_X4_isElement zw775 zp30 zw773 (zFit_of (by decide) (by decide)) [.int (iZ (n))] (c_X4_isElement l M hn hmd hm) rfl rfl (Nat.le_of_ble_eq_true rfl) (by omega) gM_O (q := vwCl[6]) rfl rfl dX4_at_2 (fun zE9 _ hzE => ?_)
  have hyE : zE9 = 0 ∨ zE9 = 1 := hzE.elim (fun q => Or.inr q.1) (fun q => Or.inl q.1)
  have hcE : (zE9 = 1 → (0 ≤ n ∧ n < md)) ∧ (zE9 = 0 → ¬ (0 ≤ n ∧ n < md)) := ⟨fun q => hzE.elim (fun r => r.2) (fun r => by omega), fun q => hzE.elim (fun r => by omega) (fun r => r.2)⟩
  refine z_if_ne X (tgt := 14) (by omega) dX4_at_5 (by decide) (fun hb5 => ?_) (fun hb5 => ?_)
  · refine z_iload_n X 2 rfl rfl dX4_at_14 ?_
    refine z_if_lt X (tgt := 45) (by omega) dX4_at_15 (by decide) (fun hb15 => ?_) (fun hb15 => ?_)
    · refine z_aload_n X 0 rfl rfl dX4_at_45 ?_
      refine z_iconst X (n := 2) dX4_at_46 ?_
      refine z_callVi X zm_X4_raise zw783 zp32 zw781 (zFit_of (by decide) (by decide)) [.int (iZ (2))] (c_X4_raise l M 2) rfl rfl (Nat.le_of_ble_eq_true rfl) (by omega) gM_O (q := vwCl[6]) rfl rfl dX4_at_47 (fun zr Sr hzr => ?_)
      exact E Sr (Or.inr (Or.inl ⟨hcE.1 (by omega), by omega, by rw [hzr.2]; exact zGm_code hC0 2⟩)) rfl dX4_at_50
    · refine z_iload_n X 2 rfl rfl dX4_at_18 ?_
      refine z_bipush X (n := 6) (by decide) dX4_at_19 ?_
      refine z_icmp_gt X (tgt := 45) (by omega) (by omega) dX4_at_21 (by decide) (fun hb21 => ?_) (fun hb21 => ?_)
      · refine z_aload_n X 0 rfl rfl dX4_at_45 ?_
        refine z_iconst X (n := 2) dX4_at_46 ?_
        refine z_callVi X zm_X4_raise zw783 zp32 zw781 (zFit_of (by decide) (by decide)) [.int (iZ (2))] (c_X4_raise l M 2) rfl rfl (Nat.le_of_ble_eq_true rfl) (by omega) gM_O (q := vwCl[6]) rfl rfl dX4_at_47 (fun zr Sr hzr => ?_)
        exact E Sr (Or.inr (Or.inl ⟨hcE.1 (by omega), by omega, by rw [hzr.2]; exact zGm_code hC0 2⟩)) rfl dX4_at_50
      · refine z_iload_n X 3 rfl rfl dX4_at_24 ?_
        refine z_if_lt X (tgt := 45) (by omega) dX4_at_25 (by decide) (fun hb25 => ?_) (fun hb25 => ?_)
        · refine z_aload_n X 0 rfl rfl dX4_at_45 ?_
          refine z_iconst X (n := 2) dX4_at_46 ?_
          refine z_callVi X zm_X4_raise zw783 zp32 zw781 (zFit_of (by decide) (by decide)) [.int (iZ (2))] (c_X4_raise l M 2) rfl rfl (Nat.le_of_ble_eq_true rfl) (by omega) gM_O (q := vwCl[6]) rfl rfl dX4_at_47 (fun zr Sr hzr => ?_)
          exact E Sr (Or.inr (Or.inl ⟨hcE.1 (by omega), by omega, by rw [hzr.2]; exact zGm_code hC0 2⟩)) rfl dX4_at_50
        · refine z_iload_n X 3 rfl rfl dX4_at_28 ?_
          refine z_bipush X (n := 6) (by decide) dX4_at_29 ?_
          refine z_icmp_gt X (tgt := 45) (by omega) (by omega) dX4_at_31 (by decide) (fun hb31 => ?_) (fun hb31 => ?_)
          · refine z_aload_n X 0 rfl rfl dX4_at_45 ?_
            refine z_iconst X (n := 2) dX4_at_46 ?_
            refine z_callVi X zm_X4_raise zw783 zp32 zw781 (zFit_of (by decide) (by decide)) [.int (iZ (2))] (c_X4_raise l M 2) rfl rfl (Nat.le_of_ble_eq_true rfl) (by omega) gM_O (q := vwCl[6]) rfl rfl dX4_at_47 (fun zr Sr hzr => ?_)
            exact E Sr (Or.inr (Or.inl ⟨hcE.1 (by omega), by omega, by rw [hzr.2]; exact zGm_code hC0 2⟩)) rfl dX4_at_50
          · refine z_iload X 4 rfl dX4_at_34 ?_
            refine z_if_lt X (tgt := 45) (by omega) dX4_at_36 (by decide) (fun hb36 => ?_) (fun hb36 => ?_)
            · refine z_aload_n X 0 rfl rfl dX4_at_45 ?_
              refine z_iconst X (n := 2) dX4_at_46 ?_
              refine z_callVi X zm_X4_raise zw783 zp32 zw781 (zFit_of (by decide) (by decide)) [.int (iZ (2))] (c_X4_raise l M 2) rfl rfl (Nat.le_of_ble_eq_true rfl) (by omega) gM_O (q := vwCl[6]) rfl rfl dX4_at_47 (fun zr Sr hzr => ?_)
              exact E Sr (Or.inr (Or.inl ⟨hcE.1 (by omega), by omega, by rw [hzr.2]; exact zGm_code hC0 2⟩)) rfl dX4_at_50
            · refine z_iload X 4 rfl dX4_at_39 ?_
              refine z_iconst X (n := 1) dX4_at_41 ?_
              refine z_icmp_le X (tgt := 51) (by omega) (by omega) dX4_at_42 (by decide) (fun hb42 => ?_) (fun hb42 => ?_)
              · have hd1 : (0 ≤ n ∧ n < md) := hcE.1 (by omega)
                obtain ⟨x1a, x1b⟩ := hel n hd1.1 hd1.2
                refine z_aload_n X 0 rfl rfl dX4_at_51 ?_
                refine z_iconst X (n := 0) dX4_at_52 ?_
                refine zn_pcode X dX4_at_53 ?_
                obtain ⟨S6, eS6⟩ : ∃ Sz, Sz = fcode M (0) := ⟨_, rfl⟩
                rw [← eS6]
                have O6 := zO_code hO (0)
                rw [← eS6] at O6
                have G6 := mG_code hG (0)
                have hcode6 : S6.2.2.1 = 0 := by rw [eS6]; rfl
                have hmd6 : S6.2.2.2.1 = md := (zO_rm O6).trans G6.2.2.1
                have hkd6 : S6.2.2.2.2.1 = kd := (zO_rk O6).trans G6.2.2.2.1
                refine z_iload X 4 rfl dX4_at_56 ?_
                refine z_if_ne X (tgt := 80) (by omega) dX4_at_58 (by decide) (fun hb58 => ?_) (fun hb58 => ?_)
                · have hv : vz (S6.1 2 (49 * n + 7 * i + j).toNat) = vz (cu (ca (if h = 0 then (EL n).1 else (EL n).2) i.toNat) j.toNat) := by
                    rw [zO_r2 O6, show (49 * n + 7 * i + j).toNat = 49 * n.toNat + (7 * i.toNat + j.toNat) by omega, if_neg (by omega)]
                    show vz (T.2.1 _) = _
                    rw [x1b.1 _ (by omega), show (7 * i.toNat + j.toNat) / 7 = i.toNat by omega, show (7 * i.toNat + j.toNat) % 7 = j.toNat by omega]
                  refine z_aload_n X 0 rfl rfl dX4_at_80 ?_
                  refine z_get X zinX4 0 (by omega) gM_O (ci := 6) rfl 3 (by decide) (ref := "TowerFieldsModel") zw674 rfl rfl dX4_at_81 ?_
                  refine z_bipush X (n := 49) (by decide) dX4_at_84 ?_
                  refine z_iload_n X 1 rfl rfl dX4_at_86 ?_
                  refine z_imul X dX4_at_87 ?_
                  refine z_bipush X (n := 7) (by decide) dX4_at_88 ?_
                  refine z_iload_n X 2 rfl rfl dX4_at_90 ?_
                  refine z_imul X dX4_at_91 ?_
                  refine z_iadd X dX4_at_92 ?_
                  refine z_iload_n X 3 rfl rfl dX4_at_93 ?_
                  refine z_iadd X dX4_at_94 ?_
                  refine zn_ld X (by decide) 5880 rfl (by omega) (by omega) (S6.1 2 (((49 * n) + (7 * i)) + j).toNat) rfl dX4_at_95 ?_
                  exact E S6 (Or.inr (Or.inr ⟨hd1, ⟨⟨by omega, by omega⟩, ⟨by omega, by omega⟩, ⟨by omega, by omega⟩⟩, hv, by rw [eS6]; exact zGm_code hC0 0⟩)) rfl dX4_at_96
                · have hv : vz (S6.1 1 (49 * n + 7 * i + j).toNat) = vz (cu (ca (if h = 0 then (EL n).1 else (EL n).2) i.toNat) j.toNat) := by
                    rw [zO_r1 O6, show (49 * n + 7 * i + j).toNat = 49 * n.toNat + (7 * i.toNat + j.toNat) by omega, if_pos (by omega)]
                    show vz (T.1 _) = _
                    rw [x1a.1 _ (by omega), show (7 * i.toNat + j.toNat) / 7 = i.toNat by omega, show (7 * i.toNat + j.toNat) % 7 = j.toNat by omega]
                  refine z_aload_n X 0 rfl rfl dX4_at_61 ?_
                  refine z_get X zinX4 0 (by omega) gM_O (ci := 6) rfl 2 (by decide) (ref := "TowerFieldsModel") zw673 rfl rfl dX4_at_62 ?_
                  refine z_bipush X (n := 49) (by decide) dX4_at_65 ?_
                  refine z_iload_n X 1 rfl rfl dX4_at_67 ?_
                  refine z_imul X dX4_at_68 ?_
                  refine z_bipush X (n := 7) (by decide) dX4_at_69 ?_
                  refine z_iload_n X 2 rfl rfl dX4_at_71 ?_
                  refine z_imul X dX4_at_72 ?_
                  refine z_iadd X dX4_at_73 ?_
                  refine z_iload_n X 3 rfl rfl dX4_at_74 ?_
                  refine z_iadd X dX4_at_75 ?_
                  refine zn_ld X (by decide) 5880 rfl (by omega) (by omega) (S6.1 1 (((49 * n) + (7 * i)) + j).toNat) rfl dX4_at_76 ?_
                  refine z_goto X (tgt := 96) dX4_at_77 (by decide) ?_
                  exact E S6 (Or.inr (Or.inr ⟨hd1, ⟨⟨by omega, by omega⟩, ⟨by omega, by omega⟩, ⟨by omega, by omega⟩⟩, hv, by rw [eS6]; exact zGm_code hC0 0⟩)) rfl dX4_at_96
              · refine z_aload_n X 0 rfl rfl dX4_at_45 ?_
                refine z_iconst X (n := 2) dX4_at_46 ?_
                refine z_callVi X zm_X4_raise zw783 zp32 zw781 (zFit_of (by decide) (by decide)) [.int (iZ (2))] (c_X4_raise l M 2) rfl rfl (Nat.le_of_ble_eq_true rfl) (by omega) gM_O (q := vwCl[6]) rfl rfl dX4_at_47 (fun zr Sr hzr => ?_)
                exact E Sr (Or.inr (Or.inl ⟨hcE.1 (by omega), by omega, by rw [hzr.2]; exact zGm_code hC0 2⟩)) rfl dX4_at_50
  · refine z_aload_n X 0 rfl rfl dX4_at_8 ?_
    refine z_iconst X (n := 1) dX4_at_9 ?_
    refine z_callVi X zm_X4_raise zw783 zp32 zw781 (zFit_of (by decide) (by decide)) [.int (iZ (1))] (c_X4_raise l M 1) rfl rfl (Nat.le_of_ble_eq_true rfl) (by omega) gM_O (q := vwCl[6]) rfl rfl dX4_at_10 (fun zr Sr hzr => ?_)
    exact E Sr (Or.inl ⟨hcE.2 (by omega), by rw [hzr.2]; exact zGm_code hC0 1⟩) rfl dX4_at_13
set_option maxHeartbeats 8000000 in
set_option maxRecDepth 100000 in
theorem c_X4_same {U V : Type} [Lean.Grind.CommRing U] [Lean.Grind.CommRing V] {cu : U → Nat → FP} {ca : V → Nat → U} (HU : mp_P cu) (HA : mp_P ca) (l : Launch) {D : va_G} {ad : Nat → Nat} {cI : ClassId} {EL : Int → V × V} {md kd : Int} {W sD : V} {cd : Int} {M : zM} (hC : zGm cu ca EL md kd W sD cd M) {n1 n2 : Int} (hn1 : -2147483648 ≤ n1 ∧ n1 < 2147483648) (hn2 : -2147483648 ≤ n2 ∧ n2 < 2147483648) : zMi l yX4_same cX4_same 5 (some .boolean) 1 D (zTyM cI) 18 ad [.ref (ad 0), .int (iZ (n1)), .int (iZ (n2))] (gM ad cI M) (gM ad cI) (fun z u => (¬ ((0 ≤ n1 ∧ n1 < md) ∧ (0 ≤ n2 ∧ n2 < md)) ∧ zGm cu ca EL md kd W sD 1 u) ∨ (((0 ≤ n1 ∧ n1 < md) ∧ (0 ≤ n2 ∧ n2 < md)) ∧ ((z = 1 ∧ EL n1 = EL n2) ∨ (z = 0 ∧ EL n1 ≠ EL n2)) ∧ zGm cu ca EL md kd W sD 0 u)) := by
  have hC0 := hC
  obtain ⟨⟨F, T, hO, hG⟩, hS⟩ := hC
  have hmd : M.2.2.2.1 = md := (zO_rm hO).trans hG.2.2.1
  have hkd : M.2.2.2.2.1 = kd := (zO_rk hO).trans hG.2.2.2.1
  have hm : 0 ≤ md ∧ md ≤ 120 := by
    have q1 := hG.1.1
    have q2 := hG.1.2.1
    rw [hG.2.2.1] at q1 q2
    exact ⟨q1, q2⟩
  have hel : ∀ n, 0 ≤ n → n < md → mEl cu ca T.1 n (EL n).1 ∧ mEl cu ca T.2.1 n (EL n).2 := fun n h0 h1 => hG.1.2.2 n h0 (by rw [hG.2.2.1]; exact h1)
  refine z_goz zm_X4_same (Nat.le_of_ble_eq_true rfl) [(0, .ref (ad 0)), (1, .int (iZ (n1))), (2, .int (iZ (n2)))] rfl (fun p e s m args below meth c A Q X E => ?_)
  refine z_aload_n X 0 rfl rfl dX4_same_0 ?_
  refine z_aload_n X 0 rfl rfl dX4_same_1 ?_
  refine z_iload_n X 1 rfl rfl dX4_same_2 ?_
  refine z_callVi X zm_X4_isElement zw775 zp30 zw773 (zFit_of (by decide) (by decide)) [.int (iZ (n1))] (c_X4_isElement l M hn1 hmd hm) rfl rfl (Nat.le_of_ble_eq_true rfl) (by omega) gM_O (q := vwCl[6]) rfl rfl dX4_same_3 (fun zn1 _ hzn1 => ?_)
  have hyn1 : zn1 = 0 ∨ zn1 = 1 := hzn1.elim (fun q => Or.inr q.1) (fun q => Or.inl q.1)
  have hcn1 : (zn1 = 1 → 0 ≤ n1 ∧ n1 < md) ∧ (zn1 = 0 → ¬ (0 ≤ n1 ∧ n1 < md)) := ⟨fun q => hzn1.elim (fun r => r.2) (fun r => by omega), fun q => hzn1.elim (fun r => by omega) (fun r => r.2)⟩
  refine z_if_eq X (tgt := 21) (by omega) dX4_same_6 (by decide) (fun hb6 => ?_) (fun hb6 => ?_)
  · refine z_iconst X (n := 1) dX4_same_21 ?_
    refine zn_pcode X dX4_same_22 ?_
    obtain ⟨S1, eS1⟩ : ∃ Sz, Sz = fcode M (1) := ⟨_, rfl⟩
    rw [← eS1]
    have O1 := zO_code hO (1)
    rw [← eS1] at O1
    have G1 := mG_code hG (1)
    have hcode1 : S1.2.2.1 = 1 := by rw [eS1]; rfl
    have hmd1 : S1.2.2.2.1 = md := (zO_rm O1).trans G1.2.2.1
    have hkd1 : S1.2.2.2.2.1 = kd := (zO_rk O1).trans G1.2.2.2.1
    refine z_aload_n X 0 rfl rfl dX4_same_25 ?_
    refine z_get X zinX4 0 (by omega) gM_O (ci := 6) rfl 0 (by decide) (ref := "TowerFieldsModel") zw671 rfl rfl dX4_same_26 ?_
    refine z_eqi (b := 1) hcode1 ?_
    refine z_if_ne X (tgt := 36) (by omega) dX4_same_29 (by decide) (fun hb29 => ?_) (fun hb29 => absurd hb29 (by omega))
    refine z_iconst X (n := 0) dX4_same_36 ?_
    refine z_istore_n X [(3, .int (iZ (0))), (0, .ref (ad 0)), (1, .int (iZ (n1))), (2, .int (iZ (n2)))] rfl rfl (by decide) dX4_same_37 ?_
    refine z_iconst X (n := 0) dX4_same_38 ?_
    refine z_istore X [(4, .int (iZ (0))), (3, .int (iZ (0))), (0, .ref (ad 0)), (1, .int (iZ (n1))), (2, .int (iZ (n2)))] rfl (by decide) dX4_same_39 ?_
    refine z_iload X 0 rfl dX4_same_41 ?_
    refine z_bipush X (n := 49) (by decide) dX4_same_43 ?_
    refine z_icmp_ge X (tgt := 118) (by omega) (by omega) dX4_same_45 (by decide) (fun hb45 => absurd hb45 (by omega)) (fun hb45 => ?_)
    refine z_iload_n X 1 rfl rfl dX4_same_48 ?_
    refine z_if_eq X (tgt := 118) (by omega) dX4_same_49 (by decide) (fun hb49 => ?_) (fun hb49 => absurd hb49 (by omega))
    refine z_iload_n X 1 rfl rfl dX4_same_118 ?_
    exact E S1 (Or.inl rfl) (Or.inl ⟨fun q => absurd q.1 (hcn1.2 (by omega)), by rw [eS1]; exact zGm_code hC0 1⟩) rfl dX4_same_119
  · refine z_aload_n X 0 rfl rfl dX4_same_9 ?_
    refine z_iload_n X 2 rfl rfl dX4_same_10 ?_
    refine z_callVi X zm_X4_isElement zw775 zp30 zw773 (zFit_of (by decide) (by decide)) [.int (iZ (n2))] (c_X4_isElement l M hn2 hmd hm) rfl rfl (Nat.le_of_ble_eq_true rfl) (by omega) gM_O (q := vwCl[6]) rfl rfl dX4_same_11 (fun zn2 _ hzn2 => ?_)
    have hyn2 : zn2 = 0 ∨ zn2 = 1 := hzn2.elim (fun q => Or.inr q.1) (fun q => Or.inl q.1)
    have hcn2 : (zn2 = 1 → 0 ≤ n2 ∧ n2 < md) ∧ (zn2 = 0 → ¬ (0 ≤ n2 ∧ n2 < md)) := ⟨fun q => hzn2.elim (fun r => r.2) (fun r => by omega), fun q => hzn2.elim (fun r => by omega) (fun r => r.2)⟩
    refine z_if_eq X (tgt := 21) (by omega) dX4_same_14 (by decide) (fun hb14 => ?_) (fun hb14 => ?_)
    · refine z_iconst X (n := 1) dX4_same_21 ?_
      refine zn_pcode X dX4_same_22 ?_
      obtain ⟨S2, eS2⟩ : ∃ Sz, Sz = fcode M (1) := ⟨_, rfl⟩
      rw [← eS2]
      have O2 := zO_code hO (1)
      rw [← eS2] at O2
      have G2 := mG_code hG (1)
      have hcode2 : S2.2.2.1 = 1 := by rw [eS2]; rfl
      have hmd2 : S2.2.2.2.1 = md := (zO_rm O2).trans G2.2.2.1
      have hkd2 : S2.2.2.2.2.1 = kd := (zO_rk O2).trans G2.2.2.2.1
      refine z_aload_n X 0 rfl rfl dX4_same_25 ?_
      refine z_get X zinX4 0 (by omega) gM_O (ci := 6) rfl 0 (by decide) (ref := "TowerFieldsModel") zw671 rfl rfl dX4_same_26 ?_
      refine z_eqi (b := 1) hcode2 ?_
      refine z_if_ne X (tgt := 36) (by omega) dX4_same_29 (by decide) (fun hb29 => ?_) (fun hb29 => absurd hb29 (by omega))
      refine z_iconst X (n := 0) dX4_same_36 ?_
      refine z_istore_n X [(3, .int (iZ (0))), (0, .ref (ad 0)), (1, .int (iZ (n1))), (2, .int (iZ (n2)))] rfl rfl (by decide) dX4_same_37 ?_
      refine z_iconst X (n := 0) dX4_same_38 ?_
      refine z_istore X [(4, .int (iZ (0))), (3, .int (iZ (0))), (0, .ref (ad 0)), (1, .int (iZ (n1))), (2, .int (iZ (n2)))] rfl (by decide) dX4_same_39 ?_
      refine z_iload X 0 rfl dX4_same_41 ?_
      refine z_bipush X (n := 49) (by decide) dX4_same_43 ?_
      refine z_icmp_ge X (tgt := 118) (by omega) (by omega) dX4_same_45 (by decide) (fun hb45 => absurd hb45 (by omega)) (fun hb45 => ?_)
      refine z_iload_n X 1 rfl rfl dX4_same_48 ?_
      refine z_if_eq X (tgt := 118) (by omega) dX4_same_49 (by decide) (fun hb49 => ?_) (fun hb49 => absurd hb49 (by omega))
      refine z_iload_n X 1 rfl rfl dX4_same_118 ?_
      exact E S2 (Or.inl rfl) (Or.inl ⟨fun q => absurd q.2 (hcn2.2 (by omega)), by rw [eS2]; exact zGm_code hC0 1⟩) rfl dX4_same_119
    · refine z_iconst X (n := 0) dX4_same_17 ?_
      refine z_goto X (tgt := 22) dX4_same_18 (by decide) ?_
      refine zn_pcode X dX4_same_22 ?_
      obtain ⟨S3, eS3⟩ : ∃ Sz, Sz = fcode M (0) := ⟨_, rfl⟩
      rw [← eS3]
      have O3 := zO_code hO (0)
      rw [← eS3] at O3
      have G3 := mG_code hG (0)
      have hcode3 : S3.2.2.1 = 0 := by rw [eS3]; rfl
      have hmd3 : S3.2.2.2.1 = md := (zO_rm O3).trans G3.2.2.1
      have hkd3 : S3.2.2.2.2.1 = kd := (zO_rk O3).trans G3.2.2.2.1
      refine z_aload_n X 0 rfl rfl dX4_same_25 ?_
      refine z_get X zinX4 0 (by omega) gM_O (ci := 6) rfl 0 (by decide) (ref := "TowerFieldsModel") zw671 rfl rfl dX4_same_26 ?_
      refine z_eqi (b := 0) hcode3 ?_
      refine z_if_ne X (tgt := 36) (by omega) dX4_same_29 (by decide) (fun hb29 => absurd hb29 (by omega)) (fun hb29 => ?_)
      refine z_iconst X (n := 1) dX4_same_32 ?_
      refine z_goto X (tgt := 37) dX4_same_33 (by decide) ?_
      refine z_istore_n X [(3, .int (iZ (1))), (0, .ref (ad 0)), (1, .int (iZ (n1))), (2, .int (iZ (n2)))] rfl rfl (by decide) dX4_same_37 ?_
      refine z_iconst X (n := 0) dX4_same_38 ?_
      refine z_istore X [(4, .int (iZ (0))), (3, .int (iZ (1))), (0, .ref (ad 0)), (1, .int (iZ (n1))), (2, .int (iZ (n2)))] rfl (by decide) dX4_same_39 ?_
      have hb9 : ((0 ≤ n1 ∧ n1 < md) ∧ (0 ≤ n2 ∧ n2 < md)) := ⟨hcn1.1 (by omega), hcn2.1 (by omega)⟩
      obtain ⟨x1a, x1b⟩ := hel n1 hb9.1.1 hb9.1.2
      obtain ⟨x2a, x2b⟩ := hel n2 hb9.2.1 hb9.2.2
      have r1 : S3.1 1 = T.1 := by have := zO_r1 O3; exact this
      have r2 : S3.1 2 = T.2.1 := by have := zO_r2 O3; exact this
      have key : ∀ (x y : V), mk_box cu ca x → mk_box cu ca y → (∀ k, k < 49 → cu (ca x (k / 7)) (k % 7) = cu (ca y (k / 7)) (k % 7)) → x = y := fun x y q1 q2 q3 => mp_ext HA (fun r => mp_ext HU (fun j => by
        by_cases hr7 : r < 7
        · by_cases hj7 : j < 7
          · have := q3 (7 * r + j) (by omega)
            rwa [show (7 * r + j) / 7 = r by omega, show (7 * r + j) % 7 = j by omega] at this
          · rw [mp_sz_out HU (Nat.le_trans (mp_xz_row HU HA x r) (Nat.le_trans q1.2 (by omega))), mp_sz_out HU (Nat.le_trans (mp_xz_row HU HA y r) (Nat.le_trans q2.2 (by omega)))]
        · rw [mp_sz_out HA (a := x) (Nat.le_trans q1.1 (by omega)), mp_sz_out HA (a := y) (Nat.le_trans q2.1 (by omega))]))
      have loop : ∀ (kloop : Nat) (i : Int) (b : Int) (lv : List (Nat × Value)) (ks : List Nat), i + kloop = 49 → 0 ≤ i → ((b = 1 ∧ ∀ k : Nat, (k : Int) < i → (cu (ca (EL n1).1 (k / 7)) (k % 7) = cu (ca (EL n2).1 (k / 7)) (k % 7) ∧ cu (ca (EL n1).2 (k / 7)) (k % 7) = cu (ca (EL n2).2 (k / 7)) (k % 7))) ∨ (b = 0 ∧ ∃ k : Nat, (k : Int) < i ∧ ¬ (cu (ca (EL n1).1 (k / 7)) (k % 7) = cu (ca (EL n2).1 (k / 7)) (k % 7) ∧ cu (ca (EL n1).2 (k / 7)) (k % 7) = cu (ca (EL n2).2 (k / 7)) (k % 7)))) → lv_pick lv ks = [(4, .int (iZ (i))), (3, .int (iZ (b))), (0, .ref (ad 0)), (1, .int (iZ (n1))), (2, .int (iZ (n2)))] → Z p l e (zRm 1) s m args below meth c 5 D 18 ad A 0 0 Q 41 lv [] (gM ad cI S3) := by
        intro kloop
        induction kloop with
        | zero =>
          intro i b lv ks e1loop e2loop h3 hlvloop
          refine z_sub ks hlvloop ?_
          refine z_iload X 0 rfl dX4_same_41 ?_
          refine z_bipush X (n := 49) (by decide) dX4_same_43 ?_
          refine z_icmp_ge X (tgt := 118) (by omega) (by omega) dX4_same_45 (by decide) (fun hb45 => ?_) (fun hb45 => absurd hb45 (by omega))
          refine z_iload_n X 1 rfl rfl dX4_same_118 ?_
          exact E (z := b) S3 (by omega) (Or.inr ⟨hb9, (by
            rcases h3 with ⟨q1, q2⟩ | ⟨q1, k, q2, q3⟩
            · exact Or.inl ⟨q1, Prod.ext (key _ _ x1a.2 x2a.2 (fun k hk => (q2 k (by omega)).1)) (key _ _ x1b.2 x2b.2 (fun k hk => (q2 k (by omega)).2))⟩
            · exact Or.inr ⟨q1, fun q => q3 ⟨by rw [q], by rw [q]⟩⟩), by rw [eS3]; exact zGm_code hC0 0⟩) rfl dX4_same_119
        | succ kloop ihloop =>
          intro i b lv ks e1loop e2loop h3 hlvloop
          refine z_sub ks hlvloop ?_
          refine z_iload X 0 rfl dX4_same_41 ?_
          refine z_bipush X (n := 49) (by decide) dX4_same_43 ?_
          refine z_icmp_ge X (tgt := 118) (by omega) (by omega) dX4_same_45 (by decide) (fun hb45 => absurd hb45 (by omega)) (fun hb45 => ?_)
          refine z_iload_n X 1 rfl rfl dX4_same_48 ?_
          refine z_if_eq X (tgt := 118) (by omega) dX4_same_49 (by decide) (fun hb49 => ?_) (fun hb49 => ?_)
          · refine z_iload_n X 1 rfl rfl dX4_same_118 ?_
            exact E (z := b) S3 (by omega) (Or.inr ⟨hb9, (by
              rcases h3 with ⟨q1, q2⟩ | ⟨q1, k, q2, q3⟩
              · exact Or.inl ⟨q1, absurd q1 (by omega)⟩
              · exact Or.inr ⟨q1, fun q => q3 ⟨by rw [q], by rw [q]⟩⟩), by rw [eS3]; exact zGm_code hC0 0⟩) rfl dX4_same_119
          · have ix1 : (49 * n1 + i).toNat = 49 * n1.toNat + i.toNat := by omega
            have ix2 : (49 * n2 + i).toNat = 49 * n2.toNat + i.toNat := by omega
            have y1 : S3.1 1 (49 * n1 + i).toNat = cu (ca (EL n1).1 (i.toNat / 7)) (i.toNat % 7) := by rw [ix1, r1]; exact x1a.1 _ (by omega)
            have g1 := vz_nn (S3.1 1 (49 * n1 + i).toNat)
            have l1 := vz_lt (S3.1 1 (49 * n1 + i).toNat)
            have y2 : S3.1 1 (49 * n2 + i).toNat = cu (ca (EL n2).1 (i.toNat / 7)) (i.toNat % 7) := by rw [ix2, r1]; exact x2a.1 _ (by omega)
            have g2 := vz_nn (S3.1 1 (49 * n2 + i).toNat)
            have l2 := vz_lt (S3.1 1 (49 * n2 + i).toNat)
            have y3 : S3.1 2 (49 * n1 + i).toNat = cu (ca (EL n1).2 (i.toNat / 7)) (i.toNat % 7) := by rw [ix1, r2]; exact x1b.1 _ (by omega)
            have g3 := vz_nn (S3.1 2 (49 * n1 + i).toNat)
            have l3 := vz_lt (S3.1 2 (49 * n1 + i).toNat)
            have y4 : S3.1 2 (49 * n2 + i).toNat = cu (ca (EL n2).2 (i.toNat / 7)) (i.toNat % 7) := by rw [ix2, r2]; exact x2b.1 _ (by omega)
            have g4 := vz_nn (S3.1 2 (49 * n2 + i).toNat)
            have l4 := vz_lt (S3.1 2 (49 * n2 + i).toNat)
            refine z_aload_n X 2 rfl rfl dX4_same_52 ?_
            refine z_get X zinX4 0 (by omega) gM_O (ci := 6) rfl 2 (by decide) (ref := "TowerFieldsModel") zw673 rfl rfl dX4_same_53 ?_
            refine z_bipush X (n := 49) (by decide) dX4_same_56 ?_
            refine z_iload_n X 3 rfl rfl dX4_same_58 ?_
            refine z_imul X dX4_same_59 ?_
            refine z_iload X 0 rfl dX4_same_60 ?_
            refine z_iadd X dX4_same_62 ?_
            refine zn_ld X (by decide) 5880 rfl (by omega) (by omega) (S3.1 1 ((49 * n1) + i).toNat) rfl dX4_same_63 ?_
            refine z_aload_n X 2 rfl rfl dX4_same_64 ?_
            refine z_get X zinX4 0 (by omega) gM_O (ci := 6) rfl 2 (by decide) (ref := "TowerFieldsModel") zw673 rfl rfl dX4_same_65 ?_
            refine z_bipush X (n := 49) (by decide) dX4_same_68 ?_
            refine z_iload_n X 4 rfl rfl dX4_same_70 ?_
            refine z_imul X dX4_same_71 ?_
            refine z_iload X 0 rfl dX4_same_72 ?_
            refine z_iadd X dX4_same_74 ?_
            refine zn_ld X (by decide) 5880 rfl (by omega) (by omega) (S3.1 1 ((49 * n2) + i).toNat) rfl dX4_same_75 ?_
            refine z_icmp_ne X (tgt := 110) (by omega) (by omega) dX4_same_76 (by decide) (fun hb76 => ?_) (fun hb76 => ?_)
            · refine z_iconst X (n := 0) dX4_same_110 ?_
              refine z_istore_n X [(3, .int (iZ (0))), (4, .int (iZ (i))), (0, .ref (ad 0)), (1, .int (iZ (n1))), (2, .int (iZ (n2)))] rfl rfl (by decide) dX4_same_111 ?_
              refine z_iinc X [(4, .int (iZ (i + 1))), (3, .int (iZ (0))), (0, .ref (ad 0)), (1, .int (iZ (n1))), (2, .int (iZ (n2)))] 1 rfl rfl (by decide) dX4_same_112 ?_
              refine z_goto X (tgt := 41) dX4_same_115 (by decide) ?_
              refine ihloop (i + 1) 0 _ [0, 1, 2, 3, 4] (by omega) (by omega) (Or.inr ⟨rfl, i.toNat, by omega, fun q => hb76 (by rw [y1, y2, q.1])⟩) rfl
            · refine z_aload_n X 2 rfl rfl dX4_same_79 ?_
              refine z_get X zinX4 0 (by omega) gM_O (ci := 6) rfl 3 (by decide) (ref := "TowerFieldsModel") zw674 rfl rfl dX4_same_80 ?_
              refine z_bipush X (n := 49) (by decide) dX4_same_83 ?_
              refine z_iload_n X 3 rfl rfl dX4_same_85 ?_
              refine z_imul X dX4_same_86 ?_
              refine z_iload X 0 rfl dX4_same_87 ?_
              refine z_iadd X dX4_same_89 ?_
              refine zn_ld X (by decide) 5880 rfl (by omega) (by omega) (S3.1 2 ((49 * n1) + i).toNat) rfl dX4_same_90 ?_
              refine z_aload_n X 2 rfl rfl dX4_same_91 ?_
              refine z_get X zinX4 0 (by omega) gM_O (ci := 6) rfl 3 (by decide) (ref := "TowerFieldsModel") zw674 rfl rfl dX4_same_92 ?_
              refine z_bipush X (n := 49) (by decide) dX4_same_95 ?_
              refine z_iload_n X 4 rfl rfl dX4_same_97 ?_
              refine z_imul X dX4_same_98 ?_
              refine z_iload X 0 rfl dX4_same_99 ?_
              refine z_iadd X dX4_same_101 ?_
              refine zn_ld X (by decide) 5880 rfl (by omega) (by omega) (S3.1 2 ((49 * n2) + i).toNat) rfl dX4_same_102 ?_
              refine z_icmp_ne X (tgt := 110) (by omega) (by omega) dX4_same_103 (by decide) (fun hb103 => ?_) (fun hb103 => ?_)
              · refine z_iconst X (n := 0) dX4_same_110 ?_
                refine z_istore_n X [(3, .int (iZ (0))), (4, .int (iZ (i))), (0, .ref (ad 0)), (1, .int (iZ (n1))), (2, .int (iZ (n2)))] rfl rfl (by decide) dX4_same_111 ?_
                refine z_iinc X [(4, .int (iZ (i + 1))), (3, .int (iZ (0))), (0, .ref (ad 0)), (1, .int (iZ (n1))), (2, .int (iZ (n2)))] 1 rfl rfl (by decide) dX4_same_112 ?_
                refine z_goto X (tgt := 41) dX4_same_115 (by decide) ?_
                refine ihloop (i + 1) 0 _ [0, 1, 2, 3, 4] (by omega) (by omega) (Or.inr ⟨rfl, i.toNat, by omega, fun q => hb103 (by rw [y3, y4, q.2])⟩) rfl
              · refine z_iconst X (n := 1) dX4_same_106 ?_
                refine z_goto X (tgt := 111) dX4_same_107 (by decide) ?_
                refine z_istore_n X [(3, .int (iZ (1))), (4, .int (iZ (i))), (0, .ref (ad 0)), (1, .int (iZ (n1))), (2, .int (iZ (n2)))] rfl rfl (by decide) dX4_same_111 ?_
                refine z_iinc X [(4, .int (iZ (i + 1))), (3, .int (iZ (1))), (0, .ref (ad 0)), (1, .int (iZ (n1))), (2, .int (iZ (n2)))] 1 rfl rfl (by decide) dX4_same_112 ?_
                refine z_goto X (tgt := 41) dX4_same_115 (by decide) ?_
                refine ihloop (i + 1) 1 _ [0, 1, 2, 3, 4] (by omega) (by omega) (Or.inl ⟨rfl, fun k hk => ?_⟩) rfl
                rcases h3 with ⟨p1, p2⟩ | ⟨p1, _⟩
                · by_cases e : k = i.toNat
                  · rw [e, ← y1, ← y2, ← y3, ← y4]; exact ⟨vz_inj hb76, vz_inj hb103⟩
                  · exact p2 k (by omega)
                · omega
      exact loop 49 (0) 1 _ [0, 1, 2, 3, 4] (by omega) (by omega) (Or.inl ⟨rfl, fun k hk => by omega⟩) rfl
