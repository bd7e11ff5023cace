set_option maxHeartbeats 8000000 in
set_option maxRecDepth 100000 in
theorem c_X4_modulo (l : Launch) {D : va_G} {tys : List (ClassId × FieldType)} {N : Nat} {ad : Nat → Nat} (g : Nat → va_E) {a : Int} (h1 : -9223372036854775808 ≤ a) (h2 : a < 9223372036854775808) : zMi l yX4_modulo cX4_modulo 4 (some .int) 0 D tys N ad [.long (lZ a)] g (fun _ : Unit => g) (fun z _ => z = vz (mI a)) := by
  refine z_goi zm_X4_modulo (Nat.le_of_ble_eq_true rfl) [(0, .long (lZ (a)))] rfl (fun p e s m args below meth c A Q X E => ?_)
  refine z_lload_n X 0 rfl rfl dX4_modulo_0 ?_
  refine z_ldc2Z X zw746 dX4_modulo_1 ?_
  refine z_lremT X h1 h2 dX4_modulo_4 ?_
  have hq := ztm a
  obtain ⟨q, eq⟩ : ∃ q, q = a.tmod 32003 := ⟨_, rfl⟩
  rw [← eq] at hq
  rw [← eq]
  refine z_lstore_n X [(2, .long (lZ (q))), (0, .long (lZ (a)))] rfl rfl (by decide) dX4_modulo_5 ?_
  refine z_lload_n X 0 rfl rfl dX4_modulo_6 ?_
  refine z_lconst0 X dX4_modulo_7 ?_
  refine z_lcmp X (by omega) (by omega) dX4_modulo_8 (fun zc8 hzc8 => ?_)
  refine z_if_ge X (tgt := 20) (by omega) dX4_modulo_9 (by decide) (fun hb9 => ?_) (fun hb9 => ?_)
  · refine z_lload_n X 0 rfl rfl dX4_modulo_20 ?_
    refine z_l2i X dX4_modulo_21 ?_
    exact E () (by rw [vz_mI]; omega) rfl dX4_modulo_22
  · refine z_lload_n X 0 rfl rfl dX4_modulo_12 ?_
    refine z_ldc2Z X zw746 dX4_modulo_13 ?_
    refine z_ladd X dX4_modulo_16 ?_
    refine z_goto X (tgt := 21) dX4_modulo_17 (by decide) ?_
    refine z_l2i X dX4_modulo_21 ?_
    exact E () (by rw [vz_mI]; omega) rfl dX4_modulo_22
set_option maxHeartbeats 8000000 in
set_option maxRecDepth 100000 in
theorem c_X4_inverse (l : Launch) {D : va_G} {tys : List (ClassId × FieldType)} {N : Nat} {ad : Nat → Nat} (g : Nat → va_E) (x : FP) : zMi l yX4_inverse cX4_inverse 6 (some .int) 0 D tys N ad [.int (iZ (vz x))] g (fun _ : Unit => g) (fun z _ => z = vz (mf_inv x)) := by
  refine z_goi zm_X4_inverse (Nat.le_of_ble_eq_true rfl) [(0, .int (iZ (vz x)))] rfl (fun p e s m args below meth c A Q X E => ?_)
  have loop : ∀ (k n r q : Nat) (lv : List (Nat × Value)) (ks : List Nat), k ≤ 15 → n < 2 ^ k → r < 32003 → q < 32003 → mf_pw k n r q = mf_in x.val → lv_pick lv ks = [(5, .int (iZ ((n : Int)))), (3, .long (lZ ((q : Int)))), (1, .long (lZ ((r : Int)))), (0, .int (iZ (vz x)))] → Z p l e (zRm 0) s m args below meth c 6 D N ad A 0 0 Q 10 lv [] g := by
    intro k
    induction k with
    | zero =>
      intro n r q lv ks hk hn hr hq he hlv
      refine z_sub ks hlv ?_
      have hn0 : n = 0 := by simp at hn; omega
      subst hn0
      refine z_iload X 0 rfl dX4_inverse_10 ?_
      refine z_if_le X (tgt := 52) (by omega) dX4_inverse_12 (by decide) (fun hb12 => ?_) (fun hb12 => absurd hb12 (by omega))
      refine z_lload_n X 2 rfl rfl dX4_inverse_52 ?_
      refine z_l2i X dX4_inverse_53 ?_
      exact E () (by show (r : Int) = ((mf_in x.val : Nat) : Int); rw [← he]; rfl) rfl dX4_inverse_54
    | succ k ih =>
      intro n r q lv ks hk hn hr hq he hlv
      refine z_sub ks hlv ?_
      have hn2 : n < 32768 := Nat.lt_of_lt_of_le hn (Nat.pow_le_pow_right (by omega) hk)
      have hrq := mf_mul_lt hr hq
      have hqq := mf_mul_lt hq hq
      refine z_iload X 0 rfl dX4_inverse_10 ?_
      refine z_if_le X (tgt := 52) (by omega) dX4_inverse_12 (by decide) (fun hb12 => ?_) (fun hb12 => ?_)
      · refine z_lload_n X 2 rfl rfl dX4_inverse_52 ?_
        refine z_l2i X dX4_inverse_53 ?_
        exact E () (by show (r : Int) = ((mf_in x.val : Nat) : Int); rw [← he, show n = 0 by omega, mf_pw_0]) rfl dX4_inverse_54
      · refine z_iload X 0 rfl dX4_inverse_15 ?_
        refine z_iconst X (n := 2) dX4_inverse_17 ?_
        refine z_irem X (by omega) (by omega) (by omega) (by omega) dX4_inverse_18 ?_
        refine z_iconst X (n := 1) dX4_inverse_19 ?_
        refine z_icmp_ne X (tgt := 33) (by omega) (by omega) dX4_inverse_20 (by decide) (fun hb20 => ?_) (fun hb20 => ?_)
        · refine z_lload_n X 2 rfl rfl dX4_inverse_33 ?_
          refine z_lstore_n X [(1, .long (lZ ((r : Int)))), (5, .int (iZ ((n : Int)))), (3, .long (lZ ((q : Int)))), (0, .int (iZ (vz x)))] rfl rfl (by decide) dX4_inverse_34 ?_
          refine z_lload_n X 2 rfl rfl dX4_inverse_35 ?_
          refine z_lload_n X 2 rfl rfl dX4_inverse_36 ?_
          refine z_lmul X dX4_inverse_37 ?_
          refine z_ldc2Z X zw746 dX4_inverse_38 ?_
          refine z_lrem X (by rw [← Int.natCast_mul]; omega) (by rw [← Int.natCast_mul]; omega) dX4_inverse_41 ?_
          refine z_lstore_n X [(3, .long (lZ ((((q : Int)) * ((q : Int))) % 32003))), (1, .long (lZ ((r : Int)))), (5, .int (iZ ((n : Int)))), (0, .int (iZ (vz x)))] rfl rfl (by decide) dX4_inverse_42 ?_
          refine z_iload X 2 rfl dX4_inverse_43 ?_
          refine z_iconst X (n := 2) dX4_inverse_45 ?_
          refine z_idiv X (by omega) (by omega) (by omega) (by omega) dX4_inverse_46 ?_
          refine z_istore X [(5, .int (iZ (((n : Int)) / 2))), (3, .long (lZ ((((q : Int)) * ((q : Int))) % 32003))), (1, .long (lZ ((r : Int)))), (0, .int (iZ (vz x)))] rfl (by decide) dX4_inverse_47 ?_
          refine z_goto X (tgt := 10) dX4_inverse_49 (by decide) ?_
          have e2 : ((q : Int) * (q : Int)) % 32003 = ((q * q % 32003 : Nat) : Int) := by rw [← Int.natCast_mul]; omega
          rw [e2]
          refine ih (n / 2) r (q * q % 32003) _ [0, 1, 2, 3] (by omega) (by rw [Nat.pow_succ] at hn; omega) hr (Nat.mod_lt _ (by omega)) ?_ rfl
          rw [mf_pw, if_neg (by omega)] at he
          exact he
        · refine z_lload_n X 2 rfl rfl dX4_inverse_23 ?_
          refine z_lload_n X 1 rfl rfl dX4_inverse_24 ?_
          refine z_lmul X dX4_inverse_25 ?_
          refine z_ldc2Z X zw746 dX4_inverse_26 ?_
          refine z_lrem X (by rw [← Int.natCast_mul]; omega) (by rw [← Int.natCast_mul]; omega) dX4_inverse_29 ?_
          refine z_goto X (tgt := 34) dX4_inverse_30 (by decide) ?_
          refine z_lstore_n X [(1, .long (lZ ((((r : Int)) * ((q : Int))) % 32003))), (5, .int (iZ ((n : Int)))), (3, .long (lZ ((q : Int)))), (0, .int (iZ (vz x)))] rfl rfl (by decide) dX4_inverse_34 ?_
          refine z_lload_n X 2 rfl rfl dX4_inverse_35 ?_
          refine z_lload_n X 2 rfl rfl dX4_inverse_36 ?_
          refine z_lmul X dX4_inverse_37 ?_
          refine z_ldc2Z X zw746 dX4_inverse_38 ?_
          refine z_lrem X (by rw [← Int.natCast_mul]; omega) (by rw [← Int.natCast_mul]; omega) dX4_inverse_41 ?_
          refine z_lstore_n X [(3, .long (lZ ((((q : Int)) * ((q : Int))) % 32003))), (1, .long (lZ ((((r : Int)) * ((q : Int))) % 32003))), (5, .int (iZ ((n : Int)))), (0, .int (iZ (vz x)))] rfl rfl (by decide) dX4_inverse_42 ?_
          refine z_iload X 2 rfl dX4_inverse_43 ?_
          refine z_iconst X (n := 2) dX4_inverse_45 ?_
          refine z_idiv X (by omega) (by omega) (by omega) (by omega) dX4_inverse_46 ?_
          refine z_istore X [(5, .int (iZ (((n : Int)) / 2))), (3, .long (lZ ((((q : Int)) * ((q : Int))) % 32003))), (1, .long (lZ ((((r : Int)) * ((q : Int))) % 32003))), (0, .int (iZ (vz x)))] rfl (by decide) dX4_inverse_47 ?_
          refine z_goto X (tgt := 10) dX4_inverse_49 (by decide) ?_
          have e1 : ((r : Int) * (q : Int)) % 32003 = ((r * q % 32003 : Nat) : Int) := by rw [← Int.natCast_mul]; omega
          have e2 : ((q : Int) * (q : Int)) % 32003 = ((q * q % 32003 : Nat) : Int) := by rw [← Int.natCast_mul]; omega
          rw [e1, e2]
          refine ih (n / 2) (r * q % 32003) (q * q % 32003) _ [0, 1, 2, 3] (by omega) (by rw [Nat.pow_succ] at hn; omega) (Nat.mod_lt _ (by omega)) (Nat.mod_lt _ (by omega)) ?_ rfl
          rw [mf_pw, if_pos (by omega)] at he
          exact he
  have hx := vz_lt x
  have hx0 := vz_nn x
  refine z_lconst1 X dX4_inverse_0 ?_
  refine z_lstore_n X [(1, .long (lZ (1))), (0, .int (iZ (vz x)))] rfl rfl (by decide) dX4_inverse_1 ?_
  refine z_iload_n X 1 rfl rfl dX4_inverse_2 ?_
  refine z_i2l X (by omega) (by omega) dX4_inverse_3 ?_
  refine z_lstore_n X [(3, .long (lZ (vz x))), (1, .long (lZ (1))), (0, .int (iZ (vz x)))] rfl rfl (by decide) dX4_inverse_4 ?_
  refine z_sipush X (n := 32001) (by decide) dX4_inverse_5 ?_
  refine z_istore X [(5, .int (iZ (32001))), (3, .long (lZ (vz x))), (1, .long (lZ (1))), (0, .int (iZ (vz x)))] rfl (by decide) dX4_inverse_8 ?_
  exact loop 15 32001 1 x.val _ [0, 1, 2, 3] (by omega) (by decide) (by decide) x.isLt rfl rfl
set_option maxHeartbeats 8000000 in
set_option maxRecDepth 100000 in
theorem c_X4_clear (l : Launch) {D : va_G} {ad : Nat → Nat} {cI : ClassId} (M : zM) {x : Nat} (hx : zA x) : zMv l yX4_clear cX4_clear 2 0 D (zTyM cI) 18 ad [.ref (ad (x))] (gM ad cI M) (gM ad cI) (fun u => ∃ f, u = fa M x f ∧ ∀ j, j < 880 → f j = 0) := by
  have hx9 := zA_o hx
  refine z_gov zm_X4_clear (Nat.le_of_ble_eq_true rfl) [(0, .ref (ad (x)))] rfl (fun p e s m args below meth c A Q X E => ?_)
  refine z_iconst X (n := 0) dX4_clear_0 ?_
  refine z_istore_n X [(1, .int (iZ (0))), (0, .ref (ad (x)))] rfl rfl (by decide) dX4_clear_1 ?_
  rw [← fa_self M x]
  have loop : ∀ (kloop : Nat) (i : Int) (f : Nat → FP) (lv : List (Nat × Value)) (ks : List Nat), i + kloop = 880 → 0 ≤ i → (∀ j : Nat, (j : Int) < i → f j = 0) → lv_pick lv ks = [(1, .int (iZ (i))), (0, .ref (ad (x)))] → Z p l e (zRm 0) s m args below meth c 2 D 18 ad A 0 0 Q 2 lv [] (gM ad cI (fa M x f)) := by
    intro kloop
    induction kloop with
    | zero =>
      intro i f lv ks e1loop e2loop h3 hlvloop
      refine z_sub ks hlvloop ?_
      refine z_iload_n X 0 rfl rfl dX4_clear_2 ?_
      refine z_sipush X (n := 880) (by decide) dX4_clear_3 ?_
      refine z_icmp_ge X (tgt := 19) (by omega) (by omega) dX4_clear_6 (by decide) (fun hb6 => ?_) (fun hb6 => absurd hb6 (by omega))
      exact E (fa M x f) ⟨f, rfl, fun j hj => h3 j (by omega)⟩ rfl dX4_clear_19
    | succ kloop ihloop =>
      intro i f lv ks e1loop e2loop h3 hlvloop
      refine z_sub ks hlvloop ?_
      refine z_iload_n X 0 rfl rfl dX4_clear_2 ?_
      refine z_sipush X (n := 880) (by decide) dX4_clear_3 ?_
      refine z_icmp_ge X (tgt := 19) (by omega) (by omega) dX4_clear_6 (by decide) (fun hb6 => absurd hb6 (by omega)) (fun hb6 => ?_)
      refine z_aload_n X 1 rfl rfl dX4_clear_9 ?_
      refine z_iload_n X 0 rfl rfl dX4_clear_10 ?_
      refine z_iconst X (n := 0) dX4_clear_11 ?_
      refine zn_st X (zA_o hx) 880 (zA_n hx) (by omega) (by omega) (0) rfl (fa M x ((va_up f (i).toNat (0)))) (fa_st _ _ _ _ _) dX4_clear_12 ?_
      refine z_iinc X [(1, .int (iZ (i + 1))), (0, .ref (ad (x)))] 0 rfl rfl (by decide) dX4_clear_13 ?_
      refine z_goto X (tgt := 2) dX4_clear_16 (by decide) ?_
      refine ihloop (i + 1) _ _ [0, 1] (by omega) (by omega) (fun j hj => ?_) rfl
      by_cases e : j = i.toNat
      · rw [e, va_up_self]
      · rw [va_up_ne _ _ e]; exact h3 j (by omega)
  exact loop 880 (0) (M.1 x) _ [0, 1] (by omega) (by omega) (fun j hj => by omega) rfl
set_option maxHeartbeats 8000000 in
set_option maxRecDepth 100000 in
theorem c_X4_copy (l : Launch) {D : va_G} {ad : Nat → Nat} {cI : ClassId} (M : zM) {x : Nat} (hx : zA x) {y : Nat} (hy : zA y) (hxy : y ≠ x) : zMv l yX4_copy cX4_copy 3 0 D (zTyM cI) 18 ad [.ref (ad (x)), .ref (ad (y))] (gM ad cI M) (gM ad cI) (fun u => ∃ f, u = fa M x f ∧ ∀ j, j < 880 → f j = M.1 y j) := by
  have hx9 := zA_o hx
  have hy9 := zA_o hy
  refine z_gov zm_X4_copy (Nat.le_of_ble_eq_true rfl) [(0, .ref (ad (x))), (1, .ref (ad (y)))] rfl (fun p e s m args below meth c A Q X E => ?_)
  refine z_iconst X (n := 0) dX4_copy_0 ?_
  refine z_istore_n X [(2, .int (iZ (0))), (0, .ref (ad (x))), (1, .ref (ad (y)))] rfl rfl (by decide) dX4_copy_1 ?_
  rw [← fa_self M x]
  have loop : ∀ (kloop : Nat) (i : Int) (f : Nat → FP) (lv : List (Nat × Value)) (ks : List Nat), i + kloop = 880 → 0 ≤ i → (∀ j : Nat, (j : Int) < i → f j = M.1 y j) → lv_pick lv ks = [(2, .int (iZ (i))), (0, .ref (ad (x))), (1, .ref (ad (y)))] → Z p l e (zRm 0) s m args below meth c 3 D 18 ad A 0 0 Q 2 lv [] (gM ad cI (fa M x f)) := by
    intro kloop
    induction kloop with
    | zero =>
      intro i f lv ks e1loop e2loop h3 hlvloop
      refine z_sub ks hlvloop ?_
      refine z_iload_n X 0 rfl rfl dX4_copy_2 ?_
      refine z_sipush X (n := 880) (by decide) dX4_copy_3 ?_
      refine z_icmp_ge X (tgt := 21) (by omega) (by omega) dX4_copy_6 (by decide) (fun hb6 => ?_) (fun hb6 => absurd hb6 (by omega))
      exact E (fa M x f) ⟨f, rfl, fun j hj => h3 j (by omega)⟩ rfl dX4_copy_21
    | succ kloop ihloop =>
      intro i f lv ks e1loop e2loop h3 hlvloop
      refine z_sub ks hlvloop ?_
      refine z_iload_n X 0 rfl rfl dX4_copy_2 ?_
      refine z_sipush X (n := 880) (by decide) dX4_copy_3 ?_
      refine z_icmp_ge X (tgt := 21) (by omega) (by omega) dX4_copy_6 (by decide) (fun hb6 => absurd hb6 (by omega)) (fun hb6 => ?_)
      refine z_aload_n X 1 rfl rfl dX4_copy_9 ?_
      refine z_iload_n X 0 rfl rfl dX4_copy_10 ?_
      refine z_aload_n X 2 rfl rfl dX4_copy_11 ?_
      refine z_iload_n X 0 rfl rfl dX4_copy_12 ?_
      refine zn_ld X (zA_o hy) 880 (zA_n hy) (by omega) (by omega) (M.1 y (i).toNat) (by rw [fa_ne _ _ (by omega)]) dX4_copy_13 ?_
      refine zn_st X (zA_o hx) 880 (zA_n hx) (by omega) (by omega) (M.1 y (i).toNat) rfl (fa M x ((va_up f (i).toNat (M.1 y (i).toNat)))) (fa_st _ _ _ _ _) dX4_copy_14 ?_
      refine z_iinc X [(2, .int (iZ (i + 1))), (0, .ref (ad (x))), (1, .ref (ad (y)))] 0 rfl rfl (by decide) dX4_copy_15 ?_
      refine z_goto X (tgt := 2) dX4_copy_18 (by decide) ?_
      refine ihloop (i + 1) _ _ [0, 1, 2] (by omega) (by omega) (fun j hj => ?_) rfl
      by_cases e : j = i.toNat
      · rw [e, va_up_self]
      · rw [va_up_ne _ _ e]; exact h3 j (by omega)
  exact loop 880 (0) (M.1 x) _ [0, 1, 2] (by omega) (by omega) (fun j hj => by omega) rfl
set_option maxHeartbeats 8000000 in
set_option maxRecDepth 100000 in
theorem c_X4_isNone (l : Launch) {D : va_G} {ad : Nat → Nat} {cI : ClassId} (M : zM) {x : Nat} (hx : zA x) : zMi l yX4_isNone cX4_isNone 3 (some .boolean) 0 D (zTyM cI) 18 ad [.ref (ad (x))] (gM ad cI M) (fun _ : Unit => gM ad cI M) (fun z _ => z = @ite Int (∀ j, j < 880 → M.1 x j = 0) (Classical.propDecidable _) 1 0) := by
  have hx9 := zA_o hx
  refine z_goz zm_X4_isNone (Nat.le_of_ble_eq_true rfl) [(0, .ref (ad (x)))] rfl (fun p e s m args below meth c A Q X E => ?_)
  refine z_iconst X (n := 1) dX4_isNone_0 ?_
  refine z_istore_n X [(1, .int (iZ (1))), (0, .ref (ad (x)))] rfl rfl (by decide) dX4_isNone_1 ?_
  refine z_iconst X (n := 0) dX4_isNone_2 ?_
  refine z_istore_n X [(2, .int (iZ (0))), (1, .int (iZ (1))), (0, .ref (ad (x)))] rfl rfl (by decide) dX4_isNone_3 ?_
  have loop : ∀ (kloop : Nat) (i : Int) (b : Int) (lv : List (Nat × Value)) (ks : List Nat), i + kloop = 880 → 0 ≤ i → ((b = 1 ∧ ∀ j : Nat, (j : Int) < i → M.1 x j = 0) ∨ (b = 0 ∧ ∃ j : Nat, (j : Int) < i ∧ M.1 x j ≠ 0)) → lv_pick lv ks = [(2, .int (iZ (i))), (1, .int (iZ (b))), (0, .ref (ad (x)))] → Z p l e (zRm 0) s m args below meth c 3 D 18 ad A 0 0 Q 4 lv [] (gM ad cI M) := by
    intro kloop
    induction kloop with
    | zero =>
      intro i b lv ks e1loop e2loop h3 hlvloop
      refine z_sub ks hlvloop ?_
      refine z_iload_n X 0 rfl rfl dX4_isNone_4 ?_
      refine z_sipush X (n := 880) (by decide) dX4_isNone_5 ?_
      refine z_icmp_ge X (tgt := 33) (by omega) (by omega) dX4_isNone_8 (by decide) (fun hb8 => ?_) (fun hb8 => absurd hb8 (by omega))
      refine z_iload_n X 1 rfl rfl dX4_isNone_33 ?_
      exact E () (by omega) (by
        rcases h3 with ⟨q1, q2⟩ | ⟨q1, j, q2, q3⟩
        · rw [if_pos (fun j hj => q2 j (by omega))]; exact q1
        · rw [if_neg (fun q => q3 (q j (by omega)))]; exact q1) rfl dX4_isNone_34
    | succ kloop ihloop =>
      intro i b lv ks e1loop e2loop h3 hlvloop
      refine z_sub ks hlvloop ?_
      refine z_iload_n X 0 rfl rfl dX4_isNone_4 ?_
      refine z_sipush X (n := 880) (by decide) dX4_isNone_5 ?_
      refine z_icmp_ge X (tgt := 33) (by omega) (by omega) dX4_isNone_8 (by decide) (fun hb8 => absurd hb8 (by omega)) (fun hb8 => ?_)
      refine z_iload_n X 1 rfl rfl dX4_isNone_11 ?_
      refine z_if_eq X (tgt := 25) (by omega) dX4_isNone_12 (by decide) (fun hb12 => ?_) (fun hb12 => ?_)
      · refine z_iconst X (n := 0) dX4_isNone_25 ?_
        refine z_istore_n X [(1, .int (iZ (0))), (2, .int (iZ (i))), (0, .ref (ad (x)))] rfl rfl (by decide) dX4_isNone_26 ?_
        refine z_iinc X [(2, .int (iZ (i + 1))), (1, .int (iZ (0))), (0, .ref (ad (x)))] 1 rfl rfl (by decide) dX4_isNone_27 ?_
        refine z_goto X (tgt := 4) dX4_isNone_30 (by decide) ?_
        refine ihloop (i + 1) 0 _ [0, 1, 2] (by omega) (by omega) (Or.inr ⟨rfl, ?_⟩) rfl
        rcases h3 with ⟨q1, q2⟩ | ⟨q1, j, q2, q3⟩
        · exact ⟨i.toNat, by omega, fun q => by have := vz_z.mpr q; omega⟩
        · exact ⟨j, by omega, q3⟩
      · have hv := vz_nn (M.1 x i.toNat)
        have hv2 := vz_lt (M.1 x i.toNat)
        refine z_aload_n X 2 rfl rfl dX4_isNone_15 ?_
        refine z_iload_n X 0 rfl rfl dX4_isNone_16 ?_
        refine zn_ld X (zA_o hx) 880 (zA_n hx) (by omega) (by omega) (M.1 x (i).toNat) rfl dX4_isNone_17 ?_
        refine z_if_ne X (tgt := 25) (by omega) dX4_isNone_18 (by decide) (fun hb18 => ?_) (fun hb18 => ?_)
        · refine z_iconst X (n := 0) dX4_isNone_25 ?_
          refine z_istore_n X [(1, .int (iZ (0))), (2, .int (iZ (i))), (0, .ref (ad (x)))] rfl rfl (by decide) dX4_isNone_26 ?_
          refine z_iinc X [(2, .int (iZ (i + 1))), (1, .int (iZ (0))), (0, .ref (ad (x)))] 1 rfl rfl (by decide) dX4_isNone_27 ?_
          refine z_goto X (tgt := 4) dX4_isNone_30 (by decide) ?_
          refine ihloop (i + 1) 0 _ [0, 1, 2] (by omega) (by omega) (Or.inr ⟨rfl, ?_⟩) rfl
          rcases h3 with ⟨q1, q2⟩ | ⟨q1, j, q2, q3⟩
          · exact ⟨i.toNat, by omega, fun q => by have := vz_z.mpr q; omega⟩
          · exact ⟨j, by omega, q3⟩
        · refine z_iconst X (n := 1) dX4_isNone_21 ?_
          refine z_goto X (tgt := 26) dX4_isNone_22 (by decide) ?_
          refine z_istore_n X [(1, .int (iZ (1))), (2, .int (iZ (i))), (0, .ref (ad (x)))] rfl rfl (by decide) dX4_isNone_26 ?_
          refine z_iinc X [(2, .int (iZ (i + 1))), (1, .int (iZ (1))), (0, .ref (ad (x)))] 1 rfl rfl (by decide) dX4_isNone_27 ?_
          refine z_goto X (tgt := 4) dX4_isNone_30 (by decide) ?_
          refine ihloop (i + 1) 1 _ [0, 1, 2] (by omega) (by omega) (Or.inl ⟨rfl, fun j hj => ?_⟩) rfl
          rcases h3 with ⟨q1, q2⟩ | ⟨q1, j9, q2, q3⟩
          · by_cases e : j = i.toNat
            · rw [e]; exact vz_z.mp (by omega)
            · exact q2 j (by omega)
          · omega
  exact loop 880 (0) 1 _ [0, 1, 2] (by omega) (by omega) (Or.inl ⟨rfl, fun j hj => by omega⟩) rfl
set_option maxHeartbeats 8000000 in
set_option maxRecDepth 100000 in
theorem c_X4_head (l : Launch) {D : va_G} {ad : Nat → Nat} {cI : ClassId} (M : zM) {x : Nat} (hx : zA x) : zMi l yX4_head cX4_head 3 (some .int) 0 D (zTyM cI) 18 ad [.ref (ad (x)), .int (iZ (880))] (gM ad cI M) (fun _ : Unit => gM ad cI M) (fun z _ => (z = -1 ∧ ∀ j, j < 880 → M.1 x j = 0) ∨ (0 ≤ z ∧ z < 880 ∧ M.1 x z.toNat ≠ 0 ∧ ∀ j : Nat, z < j → j < 880 → M.1 x j = 0)) := by
  have hx9 := zA_o hx
  refine z_goi zm_X4_head (Nat.le_of_ble_eq_true rfl) [(0, .ref (ad (x))), (1, .int (iZ (880)))] rfl (fun p e s m args below meth c A Q X E => ?_)
  have loop : ∀ (k : Nat) (i : Int) (lv : List (Nat × Value)) (ks : List Nat), i + 1 = k → i < 880 → (∀ j : Nat, i < j → j < 880 → M.1 x j = 0) → lv_pick lv ks = [(2, .int (iZ (i))), (0, .ref (ad (x))), (1, .int (iZ (880)))] → Z p l e (zRm 0) s m args below meth c 3 D 18 ad A 0 0 Q 4 lv [] (gM ad cI M) := by
    intro k
    induction k with
    | zero =>
      intro i lv ks h1 h2 h3 hlv
      refine z_sub ks hlv ?_
      refine z_iload_n X 0 rfl rfl dX4_head_4 ?_
      refine z_if_lt X (tgt := 20) (by omega) dX4_head_5 (by decide) (fun hb5 => ?_) (fun hb5 => absurd hb5 (by omega))
      refine z_iload_n X 0 rfl rfl dX4_head_20 ?_
      exact E () (Or.inl ⟨by omega, fun j hj => h3 j (by omega) hj⟩) rfl dX4_head_21
    | succ k ih =>
      intro i lv ks h1 h2 h3 hlv
      refine z_sub ks hlv ?_
      refine z_iload_n X 0 rfl rfl dX4_head_4 ?_
      refine z_if_lt X (tgt := 20) (by omega) dX4_head_5 (by decide) (fun hb5 => absurd hb5 (by omega)) (fun hb5 => ?_)
      refine z_aload_n X 1 rfl rfl dX4_head_8 ?_
      refine z_iload_n X 0 rfl rfl dX4_head_9 ?_
      refine zn_ld X (zA_o hx) 880 (zA_n hx) (by omega) (by omega) (M.1 x (i).toNat) rfl dX4_head_10 ?_
      have hv := vz_nn (M.1 x i.toNat)
      have hv2 := vz_lt (M.1 x i.toNat)
      refine z_if_ne X (tgt := 20) (by omega) dX4_head_11 (by decide) (fun hb11 => ?_) (fun hb11 => ?_)
      · refine z_iload_n X 0 rfl rfl dX4_head_20 ?_
        exact E () (Or.inr ⟨by omega, by omega, fun q => by have := vz_z.mpr q; omega, fun j j1 j2 => h3 j j1 j2⟩) rfl dX4_head_21
      · refine z_iinc X [(2, .int (iZ (i + -1))), (0, .ref (ad (x))), (1, .int (iZ (880)))] 0 rfl rfl (by decide) dX4_head_14 ?_
        refine z_goto X (tgt := 4) dX4_head_17 (by decide) ?_
        refine ih _ _ [0, 1, 2] (by omega) (by omega) (fun j j1 j2 => ?_) rfl
        by_cases e : j = i.toNat
        · rw [e]; exact vz_z.mp (by omega)
        · exact h3 j (by omega) j2
  refine z_iload_n X 1 rfl rfl dX4_head_0 ?_
  refine z_iconst X (n := 1) dX4_head_1 ?_
  refine z_isub X dX4_head_2 ?_
  refine z_istore_n X [(2, .int (iZ (880 - 1))), (0, .ref (ad (x))), (1, .int (iZ (880)))] rfl rfl (by decide) dX4_head_3 ?_
  exact loop 880 _ _ [0, 1, 2] (by omega) (by omega) (fun j j1 j2 => by omega) rfl
