set_option maxHeartbeats 8000000 in
set_option maxRecDepth 100000 in
theorem c_X4_plus (l : Launch) {D : va_G} {ad : Nat → Nat} {cI : ClassId} (M : zM) {x : Nat} (hx : zA x) {y : Nat} (hy : zA y) (hxy : y ≠ x) {t : Int} (ht : t = 1 ∨ t = -1) : zMv l yX4_plus cX4_plus 4 1 D (zTyM cI) 18 ad [.ref (ad (x)), .ref (ad (y)), .int (iZ (t))] (gM ad cI M) (gM ad cI) (fun u => ∃ f, u = fa M x f ∧ ∀ j, j < 880 → f j = M.1 x j + mI t * M.1 y j) := by
  have hx9 := zA_o hx
  have hy9 := zA_o hy
  refine z_gov zm_X4_plus (Nat.le_of_ble_eq_true rfl) [(0, .ref (ad (x))), (1, .ref (ad (y))), (2, .int (iZ (t)))] rfl (fun p e s m args below meth c A Q X E => ?_)
  refine z_iconst X (n := 0) dX4_plus_0 ?_
  refine z_istore_n X [(3, .int (iZ (0))), (0, .ref (ad (x))), (1, .ref (ad (y))), (2, .int (iZ (t)))] rfl rfl (by decide) dX4_plus_1 ?_
  rw [← fa_self M x]
  have loop : ∀ (kloop : Nat) (i : Int) (f : Nat → FP) (lv : List (Nat × Value)) (ks : List Nat), i + kloop = 880 → 0 ≤ i → (∀ j : Nat, j < 880 → f j = if (j : Int) < i then M.1 x j + mI t * M.1 y j else M.1 x j) → lv_pick lv ks = [(3, .int (iZ (i))), (0, .ref (ad (x))), (1, .ref (ad (y))), (2, .int (iZ (t)))] → Z p l e (zRm 1) s m args below meth c 4 D 18 ad A 0 0 Q 2 lv [] (gM ad cI (fa M x f)) := by
    intro kloop
    induction kloop with
    | zero =>
      intro i f lv ks e1loop e2loop h3 hlvloop
      refine z_sub ks hlvloop ?_
      refine z_iload_n X 0 rfl rfl dX4_plus_2 ?_
      refine z_sipush X (n := 880) (by decide) dX4_plus_3 ?_
      refine z_icmp_ge X (tgt := 33) (by omega) (by omega) dX4_plus_6 (by decide) (fun hb6 => ?_) (fun hb6 => absurd hb6 (by omega))
      exact E (fa M x f) ⟨f, rfl, fun j hj => by rw [h3 j hj, if_pos (by omega)]⟩ rfl dX4_plus_33
    | succ kloop ihloop =>
      intro i f lv ks e1loop e2loop h3 hlvloop
      refine z_sub ks hlvloop ?_
      refine z_iload_n X 0 rfl rfl dX4_plus_2 ?_
      refine z_sipush X (n := 880) (by decide) dX4_plus_3 ?_
      refine z_icmp_ge X (tgt := 33) (by omega) (by omega) dX4_plus_6 (by decide) (fun hb6 => absurd hb6 (by omega)) (fun hb6 => ?_)
      refine z_aload_n X 1 rfl rfl dX4_plus_9 ?_
      refine z_iload_n X 0 rfl rfl dX4_plus_10 ?_
      refine z_aload_n X 1 rfl rfl dX4_plus_11 ?_
      refine z_iload_n X 0 rfl rfl dX4_plus_12 ?_
      refine zn_ld X (zA_o hx) 880 (zA_n hx) (by omega) (by omega) (f (i).toNat) (by rw [fa_at]) dX4_plus_13 ?_
      refine z_i2l X (vz_lo _) (vz_hi _) dX4_plus_14 ?_
      refine z_iload_n X 3 rfl rfl dX4_plus_15 ?_
      refine z_i2l X (by omega) (by omega) dX4_plus_16 ?_
      refine z_aload_n X 2 rfl rfl dX4_plus_17 ?_
      refine z_iload_n X 0 rfl rfl dX4_plus_18 ?_
      refine zn_ld X (zA_o hy) 880 (zA_n hy) (by omega) (by omega) (M.1 y (i).toNat) (by rw [fa_ne _ _ (by omega)]) dX4_plus_19 ?_
      refine z_i2l X (vz_lo _) (vz_hi _) dX4_plus_20 ?_
      refine z_lmul X dX4_plus_21 ?_
      refine z_ladd X dX4_plus_22 ?_
      have q1 := vz_nn (f i.toNat)
      have q2 := vz_lt (f i.toNat)
      have q3 : -32003 ≤ t * vz (M.1 y i.toNat) ∧ t * vz (M.1 y i.toNat) ≤ 32003 := by
        have q4 := vz_nn (M.1 y i.toNat)
        have q5 := vz_lt (M.1 y i.toNat)
        rcases ht with q | q
        · rw [q]; omega
        · rw [q]; omega
      refine z_callSi X zm_X4_modulo zw744 zw743 (zFit_of (by decide) (by decide)) [.long (lZ ((vz (f (i).toNat)) + (t * (vz (M.1 y (i).toNat)))))] (c_X4_modulo l (gM ad cI (fa M x f)) (a := vz (f i.toNat) + t * vz (M.1 y i.toNat)) (by omega) (by omega)) rfl rfl (Nat.le_of_ble_eq_true rfl) dX4_plus_23 (fun z _ hz => ?_)
      subst hz
      refine z_eqi (b := vz (M.1 x i.toNat + mI t * M.1 y i.toNat)) (by rw [mI_add, mI_mul, mI_vz, mI_vz, h3 _ (by omega), if_neg (by omega)]) ?_
      refine zn_st X (zA_o hx) 880 (zA_n hx) (by omega) (by omega) (M.1 x i.toNat + mI t * M.1 y i.toNat) rfl (fa M x ((va_up f (i).toNat (M.1 x i.toNat + mI t * M.1 y i.toNat)))) (fa_st _ _ _ _ _) dX4_plus_26 ?_
      refine z_iinc X [(3, .int (iZ (i + 1))), (0, .ref (ad (x))), (1, .ref (ad (y))), (2, .int (iZ (t)))] 0 rfl rfl (by decide) dX4_plus_27 ?_
      refine z_goto X (tgt := 2) dX4_plus_30 (by decide) ?_
      refine ihloop (i + 1) _ _ [0, 1, 2, 3] (by omega) (by omega) (fun j hj => ?_) rfl
      by_cases e : j = i.toNat
      · rw [e, va_up_self, if_pos (by omega)]
      · rw [va_up_ne _ _ e, h3 j hj]
        by_cases e2 : (j : Int) < i
        · rw [if_pos e2, if_pos (by omega)]
        · rw [if_neg e2, if_neg (by omega)]
  exact loop 880 (0) (M.1 x) _ [0, 1, 2, 3] (by omega) (by omega) (fun j hj => by rw [if_neg (by omega)]) rfl
set_option maxHeartbeats 8000000 in
set_option maxRecDepth 100000 in
theorem c_X4_slope1 (l : Launch) {D : va_G} {ad : Nat → Nat} {cI : ClassId} (M : zM) {x : Nat} (hx : zA x) {y : Nat} (hy : zA y) (hxy : y ≠ x) : zMv l yX4_slope cX4_slope 5 1 D (zTyM cI) 18 ad [.ref (ad (x)), .ref (ad (y)), .int (iZ (1))] (gM ad cI M) (gM ad cI) (fun u => ∃ f, u = fa M x f ∧ ∀ j, j < 880 → f j = (if 0 < ((j + 1) % 40) ∧ j + 1 < 880 then mf_n ((j + 1) % 40) * M.1 y (j + 1) else 0)) := by
  have hx9 := zA_o hx
  have hy9 := zA_o hy
  refine z_gov zm_X4_slope (Nat.le_of_ble_eq_true rfl) [(0, .ref (ad (x))), (1, .ref (ad (y))), (2, .int (iZ (1)))] rfl (fun p e s m args below meth c A Q X E => ?_)
  refine z_aload_n X 0 rfl rfl dX4_slope_0 ?_
  refine z_callSv X zm_X4_clear zw748 zw747 (zFit_of (by decide) (by decide)) [.ref (ad (x))] (c_X4_clear l M hx) rfl rfl (Nat.le_of_ble_eq_true rfl) dX4_slope_1 (fun S1 hu1 => ?_)
  obtain ⟨f0, e0, hf0⟩ := hu1
  subst e0
  refine z_iconst X (n := 0) dX4_slope_4 ?_
  refine z_istore_n X [(3, .int (iZ (0))), (0, .ref (ad (x))), (1, .ref (ad (y))), (2, .int (iZ (1)))] rfl rfl (by decide) dX4_slope_5 ?_
  have loop : ∀ (kloop : Nat) (i : Int) (f : Nat → FP) (lv : List (Nat × Value)) (ks : List Nat), i + kloop = 880 → 0 ≤ i → (∀ j : Nat, j < 880 → f j = (if 0 < ((j + 1) % 40) ∧ ((j + 1 : Nat) : Int) < i then mf_n ((j + 1) % 40) * M.1 y (j + 1) else 0)) → lv_pick lv ks = [(3, .int (iZ (i))), (0, .ref (ad (x))), (1, .ref (ad (y))), (2, .int (iZ (1)))] → Z p l e (zRm 1) s m args below meth c 5 D 18 ad A 0 0 Q 6 lv [] (gM ad cI (fa M x f)) := by
    intro kloop
    induction kloop with
    | zero =>
      intro i f lv ks e1loop e2loop h3 hlvloop
      refine z_sub ks hlvloop ?_
      refine z_iload_n X 0 rfl rfl dX4_slope_6 ?_
      refine z_sipush X (n := 880) (by decide) dX4_slope_7 ?_
      refine z_icmp_ge X (tgt := 58) (by omega) (by omega) dX4_slope_10 (by decide) (fun hb10 => ?_) (fun hb10 => absurd hb10 (by omega))
      exact E (fa M x f) ⟨f, rfl, fun j hj => by
        rw [h3 j hj]
        by_cases e2 : 0 < ((j + 1) % 40) ∧ j + 1 < 880
        · rw [if_pos e2, if_pos (by omega)]
        · rw [if_neg e2, if_neg (by omega)]⟩ rfl dX4_slope_58
    | succ kloop ihloop =>
      intro i f lv ks e1loop e2loop h3 hlvloop
      refine z_sub ks hlvloop ?_
      refine z_iload_n X 0 rfl rfl dX4_slope_6 ?_
      refine z_sipush X (n := 880) (by decide) dX4_slope_7 ?_
      refine z_icmp_ge X (tgt := 58) (by omega) (by omega) dX4_slope_10 (by decide) (fun hb10 => absurd hb10 (by omega)) (fun hb10 => ?_)
      refine z_iload_n X 3 rfl rfl dX4_slope_13 ?_
      refine z_iconst X (n := 1) dX4_slope_14 ?_
      refine z_icmp_ne X (tgt := 25) (by omega) (by omega) dX4_slope_15 (by decide) (fun hb15 => absurd hb15 (by omega)) (fun hb15 => ?_)
      refine z_iload_n X 0 rfl rfl dX4_slope_18 ?_
      refine z_bipush X (n := 40) (by decide) dX4_slope_19 ?_
      refine z_irem X (by omega) (by omega) (by omega) (by omega) dX4_slope_21 ?_
      refine z_goto X (tgt := 29) dX4_slope_22 (by decide) ?_
      refine z_istore X [(4, .int (iZ ((i) % 40))), (3, .int (iZ (i))), (0, .ref (ad (x))), (1, .ref (ad (y))), (2, .int (iZ (1)))] rfl (by decide) dX4_slope_29 ?_
      refine z_iload X 0 rfl dX4_slope_31 ?_
      refine z_if_le X (tgt := 52) (by omega) dX4_slope_33 (by decide) (fun hb33 => ?_) (fun hb33 => ?_)
      · refine z_iinc X [(3, .int (iZ (i + 1))), (4, .int (iZ ((i) % 40))), (0, .ref (ad (x))), (1, .ref (ad (y))), (2, .int (iZ (1)))] 1 rfl rfl (by decide) dX4_slope_52 ?_
        refine z_goto X (tgt := 6) dX4_slope_55 (by decide) ?_
        refine ihloop (i + 1) _ _ [0, 2, 3, 4] (by omega) (by omega) (fun j hj => ?_) rfl
        rw [h3 j hj]
        by_cases e2 : 0 < ((j + 1) % 40) ∧ ((j + 1 : Nat) : Int) < i
        · rw [if_pos e2, if_pos (by omega)]
        · rw [if_neg e2, if_neg (by omega)]
      · refine z_aload_n X 2 rfl rfl dX4_slope_36 ?_
        refine z_iload_n X 1 rfl rfl dX4_slope_37 ?_
        refine z_iload_n X 4 rfl rfl dX4_slope_38 ?_
        refine z_isub X dX4_slope_39 ?_
        refine z_aload_n X 3 rfl rfl dX4_slope_40 ?_
        refine z_iload_n X 1 rfl rfl dX4_slope_41 ?_
        refine zn_ld X (zA_o hy) 880 (zA_n hy) (by omega) (by omega) (M.1 y (i).toNat) (by rw [fa_ne _ _ (by omega)]) dX4_slope_42 ?_
        refine z_i2l X (vz_lo _) (vz_hi _) dX4_slope_43 ?_
        refine z_iload X 0 rfl dX4_slope_44 ?_
        refine z_i2l X (by omega) (by omega) dX4_slope_46 ?_
        refine z_lmul X dX4_slope_47 ?_
        have q1 := vz_nn (M.1 y i.toNat)
        have q2 := vz_lt (M.1 y i.toNat)
        have q3 : 0 ≤ vz (M.1 y i.toNat) * (i % 40) ∧ vz (M.1 y i.toNat) * (i % 40) ≤ 32003 * 40 := ⟨Int.mul_nonneg q1 (by omega), Int.mul_le_mul (by omega) (by omega) (by omega) (by omega)⟩
        refine z_callSi X zm_X4_modulo zw744 zw743 (zFit_of (by decide) (by decide)) [.long (lZ ((vz (M.1 y (i).toNat)) * ((i) % 40)))] (c_X4_modulo l (gM ad cI (fa M x f)) (a := vz (M.1 y i.toNat) * (i % 40)) (by omega) (by omega)) rfl rfl (Nat.le_of_ble_eq_true rfl) dX4_slope_48 (fun z _ hz => ?_)
        subst hz
        refine z_eqi (b := vz (mf_n (i % 40).toNat * M.1 y i.toNat)) (by
          rw [mI_mul, mI_vz, ← mI_nat, show (((i % 40).toNat : Nat) : Int) = i % 40 by omega]
          congr 1
          grind) ?_
        refine zn_st X (zA_o hx) 880 (zA_n hx) (by omega) (by omega) (mf_n (i % 40).toNat * M.1 y i.toNat) rfl (fa M x ((va_up f (i - 1).toNat (mf_n (i % 40).toNat * M.1 y i.toNat)))) (fa_st _ _ _ _ _) dX4_slope_51 ?_
        refine z_iinc X [(3, .int (iZ (i + 1))), (4, .int (iZ ((i) % 40))), (0, .ref (ad (x))), (1, .ref (ad (y))), (2, .int (iZ (1)))] 1 rfl rfl (by decide) dX4_slope_52 ?_
        refine z_goto X (tgt := 6) dX4_slope_55 (by decide) ?_
        refine ihloop (i + 1) _ _ [0, 2, 3, 4] (by omega) (by omega) (fun j hj => ?_) rfl
        by_cases e : j = (i - 1).toNat
        · rw [e, va_up_self, if_pos (by omega)]
          rw [show (i - 1).toNat + 1 = i.toNat by omega, show i.toNat % 40 = (i % 40).toNat by omega]
        · rw [va_up_ne _ _ e, h3 j hj]
          by_cases e2 : 0 < ((j + 1) % 40) ∧ ((j + 1 : Nat) : Int) < i
          · rw [if_pos e2, if_pos (by omega)]
          · rw [if_neg e2, if_neg (by omega)]
  exact loop 880 (0) f0 _ [0, 1, 2, 3] (by omega) (by omega) (fun j hj => by rw [hf0 j hj, if_neg (by omega)]) rfl
set_option maxHeartbeats 8000000 in
set_option maxRecDepth 100000 in
theorem c_X4_slope40 (l : Launch) {D : va_G} {ad : Nat → Nat} {cI : ClassId} (M : zM) {x : Nat} (hx : zA x) {y : Nat} (hy : zA y) (hxy : y ≠ x) : zMv l yX4_slope cX4_slope 5 1 D (zTyM cI) 18 ad [.ref (ad (x)), .ref (ad (y)), .int (iZ (40))] (gM ad cI M) (gM ad cI) (fun u => ∃ f, u = fa M x f ∧ ∀ j, j < 880 → f j = (if 0 < ((j + 40) / 40) ∧ j + 40 < 880 then mf_n ((j + 40) / 40) * M.1 y (j + 40) else 0)) := by
  have hx9 := zA_o hx
  have hy9 := zA_o hy
  refine z_gov zm_X4_slope (Nat.le_of_ble_eq_true rfl) [(0, .ref (ad (x))), (1, .ref (ad (y))), (2, .int (iZ (40)))] rfl (fun p e s m args below meth c A Q X E => ?_)
  refine z_aload_n X 0 rfl rfl dX4_slope_0 ?_
  refine z_callSv X zm_X4_clear zw748 zw747 (zFit_of (by decide) (by decide)) [.ref (ad (x))] (c_X4_clear l M hx) rfl rfl (Nat.le_of_ble_eq_true rfl) dX4_slope_1 (fun S1 hu1 => ?_)
  obtain ⟨f0, e0, hf0⟩ := hu1
  subst e0
  refine z_iconst X (n := 0) dX4_slope_4 ?_
  refine z_istore_n X [(3, .int (iZ (0))), (0, .ref (ad (x))), (1, .ref (ad (y))), (2, .int (iZ (40)))] rfl rfl (by decide) dX4_slope_5 ?_
  have loop : ∀ (kloop : Nat) (i : Int) (f : Nat → FP) (lv : List (Nat × Value)) (ks : List Nat), i + kloop = 880 → 0 ≤ i → (∀ j : Nat, j < 880 → f j = (if 0 < ((j + 40) / 40) ∧ ((j + 40 : Nat) : Int) < i then mf_n ((j + 40) / 40) * M.1 y (j + 40) else 0)) → lv_pick lv ks = [(3, .int (iZ (i))), (0, .ref (ad (x))), (1, .ref (ad (y))), (2, .int (iZ (40)))] → Z p l e (zRm 1) s m args below meth c 5 D 18 ad A 0 0 Q 6 lv [] (gM ad cI (fa M x f)) := by
    intro kloop
    induction kloop with
    | zero =>
      intro i f lv ks e1loop e2loop h3 hlvloop
      refine z_sub ks hlvloop ?_
      refine z_iload_n X 0 rfl rfl dX4_slope_6 ?_
      refine z_sipush X (n := 880) (by decide) dX4_slope_7 ?_
      refine z_icmp_ge X (tgt := 58) (by omega) (by omega) dX4_slope_10 (by decide) (fun hb10 => ?_) (fun hb10 => absurd hb10 (by omega))
      exact E (fa M x f) ⟨f, rfl, fun j hj => by
        rw [h3 j hj]
        by_cases e2 : 0 < ((j + 40) / 40) ∧ j + 40 < 880
        · rw [if_pos e2, if_pos (by omega)]
        · rw [if_neg e2, if_neg (by omega)]⟩ rfl dX4_slope_58
    | succ kloop ihloop =>
      intro i f lv ks e1loop e2loop h3 hlvloop
      refine z_sub ks hlvloop ?_
      refine z_iload_n X 0 rfl rfl dX4_slope_6 ?_
      refine z_sipush X (n := 880) (by decide) dX4_slope_7 ?_
      refine z_icmp_ge X (tgt := 58) (by omega) (by omega) dX4_slope_10 (by decide) (fun hb10 => absurd hb10 (by omega)) (fun hb10 => ?_)
      refine z_iload_n X 3 rfl rfl dX4_slope_13 ?_
      refine z_iconst X (n := 1) dX4_slope_14 ?_
      refine z_icmp_ne X (tgt := 25) (by omega) (by omega) dX4_slope_15 (by decide) (fun hb15 => ?_) (fun hb15 => absurd hb15 (by omega))
      refine z_iload_n X 0 rfl rfl dX4_slope_25 ?_
      refine z_bipush X (n := 40) (by decide) dX4_slope_26 ?_
      refine z_idiv X (by omega) (by omega) (by omega) (by omega) dX4_slope_28 ?_
      refine z_istore X [(4, .int (iZ ((i) / 40))), (3, .int (iZ (i))), (0, .ref (ad (x))), (1, .ref (ad (y))), (2, .int (iZ (40)))] rfl (by decide) dX4_slope_29 ?_
      refine z_iload X 0 rfl dX4_slope_31 ?_
      refine z_if_le X (tgt := 52) (by omega) dX4_slope_33 (by decide) (fun hb33 => ?_) (fun hb33 => ?_)
      · refine z_iinc X [(3, .int (iZ (i + 1))), (4, .int (iZ ((i) / 40))), (0, .ref (ad (x))), (1, .ref (ad (y))), (2, .int (iZ (40)))] 1 rfl rfl (by decide) dX4_slope_52 ?_
        refine z_goto X (tgt := 6) dX4_slope_55 (by decide) ?_
        refine ihloop (i + 1) _ _ [0, 2, 3, 4] (by omega) (by omega) (fun j hj => ?_) rfl
        rw [h3 j hj]
        by_cases e2 : 0 < ((j + 40) / 40) ∧ ((j + 40 : Nat) : Int) < i
        · rw [if_pos e2, if_pos (by omega)]
        · rw [if_neg e2, if_neg (by omega)]
      · refine z_aload_n X 2 rfl rfl dX4_slope_36 ?_
        refine z_iload_n X 1 rfl rfl dX4_slope_37 ?_
        refine z_iload_n X 4 rfl rfl dX4_slope_38 ?_
        refine z_isub X dX4_slope_39 ?_
        refine z_aload_n X 3 rfl rfl dX4_slope_40 ?_
        refine z_iload_n X 1 rfl rfl dX4_slope_41 ?_
        refine zn_ld X (zA_o hy) 880 (zA_n hy) (by omega) (by omega) (M.1 y (i).toNat) (by rw [fa_ne _ _ (by omega)]) dX4_slope_42 ?_
        refine z_i2l X (vz_lo _) (vz_hi _) dX4_slope_43 ?_
        refine z_iload X 0 rfl dX4_slope_44 ?_
        refine z_i2l X (by omega) (by omega) dX4_slope_46 ?_
        refine z_lmul X dX4_slope_47 ?_
        have q1 := vz_nn (M.1 y i.toNat)
        have q2 := vz_lt (M.1 y i.toNat)
        have q3 : 0 ≤ vz (M.1 y i.toNat) * (i / 40) ∧ vz (M.1 y i.toNat) * (i / 40) ≤ 32003 * 40 := ⟨Int.mul_nonneg q1 (by omega), Int.mul_le_mul (by omega) (by omega) (by omega) (by omega)⟩
        refine z_callSi X zm_X4_modulo zw744 zw743 (zFit_of (by decide) (by decide)) [.long (lZ ((vz (M.1 y (i).toNat)) * ((i) / 40)))] (c_X4_modulo l (gM ad cI (fa M x f)) (a := vz (M.1 y i.toNat) * (i / 40)) (by omega) (by omega)) rfl rfl (Nat.le_of_ble_eq_true rfl) dX4_slope_48 (fun z _ hz => ?_)
        subst hz
        refine z_eqi (b := vz (mf_n (i / 40).toNat * M.1 y i.toNat)) (by
          rw [mI_mul, mI_vz, ← mI_nat, show (((i / 40).toNat : Nat) : Int) = i / 40 by omega]
          congr 1
          grind) ?_
        refine zn_st X (zA_o hx) 880 (zA_n hx) (by omega) (by omega) (mf_n (i / 40).toNat * M.1 y i.toNat) rfl (fa M x ((va_up f (i - 40).toNat (mf_n (i / 40).toNat * M.1 y i.toNat)))) (fa_st _ _ _ _ _) dX4_slope_51 ?_
        refine z_iinc X [(3, .int (iZ (i + 1))), (4, .int (iZ ((i) / 40))), (0, .ref (ad (x))), (1, .ref (ad (y))), (2, .int (iZ (40)))] 1 rfl rfl (by decide) dX4_slope_52 ?_
        refine z_goto X (tgt := 6) dX4_slope_55 (by decide) ?_
        refine ihloop (i + 1) _ _ [0, 2, 3, 4] (by omega) (by omega) (fun j hj => ?_) rfl
        by_cases e : j = (i - 40).toNat
        · rw [e, va_up_self, if_pos (by omega)]
          rw [show (i - 40).toNat + 40 = i.toNat by omega, show i.toNat / 40 = (i / 40).toNat by omega]
        · rw [va_up_ne _ _ e, h3 j hj]
          by_cases e2 : 0 < ((j + 40) / 40) ∧ ((j + 40 : Nat) : Int) < i
          · rw [if_pos e2, if_pos (by omega)]
          · rw [if_neg e2, if_neg (by omega)]
  exact loop 880 (0) f0 _ [0, 1, 2, 3] (by omega) (by omega) (fun j hj => by rw [hf0 j hj, if_neg (by omega)]) rfl
set_option maxHeartbeats 8000000 in
set_option maxRecDepth 100000 in
theorem c_X4_load (l : Launch) {D : va_G} {ad : Nat → Nat} {cI : ClassId} (M : zM) {x : Nat} (hx : zA x) {r : Nat} (hr : r = 1 ∨ r = 2) {h : Int} (h0 : 0 ≤ h) (h1 : h < 120) : zMv l yX4_load cX4_load 5 1 D (zTyM cI) 18 ad [.ref (ad 0), .ref (ad (x)), .ref (ad (r)), .int (iZ (h))] (gM ad cI M) (gM ad cI) (fun u => ∃ f, u = fa M x f ∧ ∀ j, j < 880 → f j = (if j / 40 < 7 ∧ j % 40 < 7 then M.1 r (49 * h.toNat + (7 * (j / 40) + j % 40)) else 0)) := by
  have hx9 := zA_o hx
  have hr9 : zLn r = 5880 := by unfold zLn; rw [if_pos (by omega)]
  have hxr : r ≠ x := by unfold zA at hx; omega
  refine z_gov zm_X4_load (Nat.le_of_ble_eq_true rfl) [(0, .ref (ad 0)), (1, .ref (ad (x))), (2, .ref (ad (r))), (3, .int (iZ (h)))] rfl (fun p e s m args below meth c A Q X E => ?_)
  refine z_aload_n X 1 rfl rfl dX4_load_0 ?_
  refine z_callSv X zm_X4_clear zw748 zw747 (zFit_of (by decide) (by decide)) [.ref (ad (x))] (c_X4_clear l M hx) rfl rfl (Nat.le_of_ble_eq_true rfl) dX4_load_1 (fun S1 hu1 => ?_)
  obtain ⟨f0, e0, hf0⟩ := hu1
  subst e0
  refine z_iconst X (n := 0) dX4_load_4 ?_
  refine z_istore X [(4, .int (iZ (0))), (0, .ref (ad 0)), (1, .ref (ad (x))), (2, .ref (ad (r))), (3, .int (iZ (h)))] rfl (by decide) dX4_load_5 ?_
  have loop : ∀ (kloop : Nat) (i : Int) (f : Nat → FP) (lv : List (Nat × Value)) (ks : List Nat), i + kloop = 49 → 0 ≤ i → (∀ j : Nat, j < 880 → f j = (if (j / 40 < 7 ∧ j % 40 < 7) ∧ ((7 * (j / 40) + j % 40 : Nat) : Int) < i then M.1 r (49 * h.toNat + (7 * (j / 40) + j % 40)) else 0)) → lv_pick lv ks = [(4, .int (iZ (i))), (0, .ref (ad 0)), (1, .ref (ad (x))), (2, .ref (ad (r))), (3, .int (iZ (h)))] → Z p l e (zRm 1) s m args below meth c 5 D 18 ad A 0 0 Q 7 lv [] (gM ad cI (fa M x f)) := by
    intro kloop
    induction kloop with
    | zero =>
      intro i f lv ks e1loop e2loop h3 hlvloop
      refine z_sub ks hlvloop ?_
      refine z_iload X 0 rfl dX4_load_7 ?_
      refine z_bipush X (n := 49) (by decide) dX4_load_9 ?_
      refine z_icmp_ge X (tgt := 45) (by omega) (by omega) dX4_load_11 (by decide) (fun hb11 => ?_) (fun hb11 => absurd hb11 (by omega))
      exact E (fa M x f) ⟨f, rfl, fun j hj => by
        rw [h3 j hj]
        by_cases e2 : j / 40 < 7 ∧ j % 40 < 7
        · rw [if_pos e2, if_pos ⟨e2, by omega⟩]
        · rw [if_neg e2, if_neg (fun q => e2 q.1)]⟩ rfl dX4_load_45
    | succ kloop ihloop =>
      intro i f lv ks e1loop e2loop h3 hlvloop
      refine z_sub ks hlvloop ?_
      refine z_iload X 0 rfl dX4_load_7 ?_
      refine z_bipush X (n := 49) (by decide) dX4_load_9 ?_
      refine z_icmp_ge X (tgt := 45) (by omega) (by omega) dX4_load_11 (by decide) (fun hb11 => absurd hb11 (by omega)) (fun hb11 => ?_)
      refine z_aload_n X 2 rfl rfl dX4_load_14 ?_
      refine z_bipush X (n := 40) (by decide) dX4_load_15 ?_
      refine z_iload X 0 rfl dX4_load_17 ?_
      refine z_bipush X (n := 7) (by decide) dX4_load_19 ?_
      refine z_idiv X (by omega) (by omega) (by omega) (by omega) dX4_load_21 ?_
      refine z_imul X dX4_load_22 ?_
      refine z_iload X 0 rfl dX4_load_23 ?_
      refine z_bipush X (n := 7) (by decide) dX4_load_25 ?_
      refine z_irem X (by omega) (by omega) (by omega) (by omega) dX4_load_27 ?_
      refine z_iadd X dX4_load_28 ?_
      refine z_aload_n X 3 rfl rfl dX4_load_29 ?_
      refine z_bipush X (n := 49) (by decide) dX4_load_30 ?_
      refine z_iload_n X 4 rfl rfl dX4_load_32 ?_
      refine z_imul X dX4_load_33 ?_
      refine z_iload X 0 rfl dX4_load_34 ?_
      refine z_iadd X dX4_load_36 ?_
      refine zn_ld X (by omega) 5880 hr9 (by omega) (by omega) (M.1 r ((49 * h) + i).toNat) (by rw [fa_ne _ _ (by omega)]) dX4_load_37 ?_
      refine zn_st X (zA_o hx) 880 (zA_n hx) (by omega) (by omega) (M.1 r ((49 * h) + i).toNat) rfl (fa M x ((va_up f ((40 * ((i) / 7)) + ((i) % 7)).toNat (M.1 r ((49 * h) + i).toNat)))) (fa_st _ _ _ _ _) dX4_load_38 ?_
      refine z_iinc X [(4, .int (iZ (i + 1))), (0, .ref (ad 0)), (1, .ref (ad (x))), (2, .ref (ad (r))), (3, .int (iZ (h)))] 0 rfl rfl (by decide) dX4_load_39 ?_
      refine z_goto X (tgt := 7) dX4_load_42 (by decide) ?_
      refine ihloop (i + 1) _ _ [0, 1, 2, 3, 4] (by omega) (by omega) (fun j hj => ?_) rfl
      by_cases e : j = (40 * (i / 7) + i % 7).toNat
      · rw [e, va_up_self, if_pos ⟨⟨by omega, by omega⟩, by omega⟩]
        exact congrArg (M.1 r) (by omega)
      · rw [va_up_ne _ _ e, h3 j hj]
        by_cases e2 : (j / 40 < 7 ∧ j % 40 < 7) ∧ ((7 * (j / 40) + j % 40 : Nat) : Int) < i
        · rw [if_pos e2, if_pos ⟨e2.1, by omega⟩]
        · rw [if_neg e2, if_neg (fun q => e2 ⟨q.1, by omega⟩)]
  exact loop 49 (0) f0 _ [0, 1, 2, 3, 4] (by omega) (by omega) (fun j hj => by rw [hf0 j hj, if_neg (fun q => by omega)]) rfl
set_option maxHeartbeats 8000000 in
set_option maxRecDepth 100000 in
theorem c_X4_one (l : Launch) {D : va_G} {ad : Nat → Nat} {cI : ClassId} (M : zM) {x : Nat} (hx : zA x) : zMv l yX4_one cX4_one 2 1 D (zTyM cI) 18 ad [.ref (ad 0), .ref (ad (x))] (gM ad cI M) (gM ad cI) (fun u => ∃ f, u = fa M x f ∧ ∀ j, j < 880 → f j = if j = 0 then 1 else 0) := by
  have hx9 := zA_o hx
  refine z_gov zm_X4_one (Nat.le_of_ble_eq_true rfl) [(0, .ref (ad 0)), (1, .ref (ad (x)))] rfl (fun p e s m args below meth c A Q X E => ?_)
  refine z_aload_n X 1 rfl rfl dX4_one_0 ?_
  refine z_callSv X zm_X4_clear zw748 zw747 (zFit_of (by decide) (by decide)) [.ref (ad (x))] (c_X4_clear l M hx) rfl rfl (Nat.le_of_ble_eq_true rfl) dX4_one_1 (fun S1 hu1 => ?_)
  obtain ⟨f0, e0, hf0⟩ := hu1
  subst e0
  refine z_aload_n X 1 rfl rfl dX4_one_4 ?_
  refine z_iconst X (n := 0) dX4_one_5 ?_
  refine z_iconst X (n := 1) dX4_one_6 ?_
  refine zn_st X (zA_o hx) 880 (zA_n hx) (by omega) (by omega) (1) rfl (fa M x ((va_up f0 ((0 : Int)).toNat (1)))) (fa_st _ _ _ _ _) dX4_one_7 ?_
  exact E _ ⟨_, rfl, fun j hj => by
    by_cases e : j = 0
    · rw [e, if_pos rfl]; exact va_up_self _ _ _
    · rw [va_up_ne _ _ (by omega), hf0 j hj, if_neg e]⟩ rfl dX4_one_8
