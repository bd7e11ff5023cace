theorem zN_self {U : Type} [Lean.Grind.CommRing U] {cu : U → Nat → FP} {P : Nat → U} {T : zTM} {M : zM} (h : zN cu P T M) {x : Nat} {q : U} (e : q = P x) : zN cu (va_up P x q) T M := by
  have : va_up P x q = P := funext fun k => by
    by_cases h9 : k = x
    · rw [h9, va_up_self, e]
    · rw [va_up_ne _ _ h9]
  rw [this]
  exact h
theorem zN_at2 {U : Type} [Lean.Grind.CommRing U] {cu : U → Nat → FP} {P : Nat → U} {T : zTM} {M : zM} (h : zN cu P T M) {x : Nat} (hx : zBx x) : ∀ j, j < 880 → M.1 x j = cu (P x) j := fun _ hj => zN_at h hx hj
set_option maxHeartbeats 8000000 in
set_option maxRecDepth 100000 in
theorem c_X4_multiply {U : Type} [Lean.Grind.CommRing U] {cu : U → Nat → FP} (HU : mp_P cu) (l : Launch) {D : va_G} {ad : Nat → Nat} {cI : ClassId} {P : Nat → U} {T : zTM} {M : zM} (hN : zN cu P T M) {x y z : Nat} (hx : zBx x) (hy : zBx y) (hz : zBx z) (hxy : y ≠ x) (hxz : z ≠ x) (hs : mp_sz cu (P y) + mp_sz cu (P z) ≤ 881) : zMv l yX4_multiply cX4_multiply 7 1 D (zTyM cI) 18 ad [.ref (ad 0), .ref (ad (x)), .ref (ad (y)), .ref (ad (z))] (gM ad cI M) (gM ad cI) (fun u => zN cu (va_up P x (P y * P z)) T u) := by
  have hxA := zBx_A hx
  have hyA := zBx_A hy
  have hzA := zBx_A hz
  have hx9 := zA_o hxA
  have hy9 := zA_o hyA
  have hz9 := zA_o hzA
  have sy := zN_sz hN hy
  have sz9 := zN_sz hN hz
  refine z_gov zm_X4_multiply (Nat.le_of_ble_eq_true rfl) [(0, .ref (ad 0)), (1, .ref (ad (x))), (2, .ref (ad (y))), (3, .ref (ad (z)))] rfl (fun p e s m args below meth c A Q X E => ?_)
  refine z_aload_n X 1 rfl rfl dX4_multiply_0 ?_
  refine z_callSv X zm_X4_clear zw748 zw747 (zFit_of (by decide) (by decide)) [.ref (ad (x))] (c_X4_clear l M hxA) rfl rfl (Nat.le_of_ble_eq_true rfl) dX4_multiply_1 (fun S1 hu1 => ?_)
  obtain ⟨f0, e0, hf0⟩ := hu1
  subst e0
  refine z_aload_n X 3 rfl rfl dX4_multiply_4 ?_
  refine z_sipush X (n := 880) (by decide) dX4_multiply_5 ?_
  refine z_callSi X zm_X4_head zw797 zw796 (zFit_of (by decide) (by decide)) [.ref (ad (z)), .int (iZ (880))] (c_X4_head l (fa M x f0) hzA) rfl rfl (Nat.le_of_ble_eq_true rfl) dX4_multiply_8 (fun q4 _ h4 => ?_)
  have e4 := zhd HU (zN_at2 hN hz) (zN_sz hN hz) (by rw [fa_ne _ _ (by omega)] at h4; exact h4)
  subst e4
  refine z_istore X [(4, .int (iZ ((mp_sz cu (P z) : Int) - 1))), (0, .ref (ad 0)), (1, .ref (ad (x))), (2, .ref (ad (y))), (3, .ref (ad (z)))] rfl (by decide) dX4_multiply_11 ?_
  refine z_aload_n X 3 rfl rfl dX4_multiply_13 ?_
  refine z_sipush X (n := 880) (by decide) dX4_multiply_14 ?_
  refine z_callSi X zm_X4_head zw797 zw796 (zFit_of (by decide) (by decide)) [.ref (ad (y)), .int (iZ (880))] (c_X4_head l (fa M x f0) hyA) rfl rfl (Nat.le_of_ble_eq_true rfl) dX4_multiply_17 (fun q5 _ h5 => ?_)
  have e5 := zhd HU (zN_at2 hN hy) (zN_sz hN hy) (by rw [fa_ne _ _ (by omega)] at h5; exact h5)
  subst e5
  refine z_istore X [(5, .int (iZ ((mp_sz cu (P y) : Int) - 1))), (4, .int (iZ ((mp_sz cu (P z) : Int) - 1))), (0, .ref (ad 0)), (1, .ref (ad (x))), (2, .ref (ad (y))), (3, .ref (ad (z)))] rfl (by decide) dX4_multiply_20 ?_
  have loop : ∀ (kloop : Nat) (i : Int) (f : Nat → FP) (lv : List (Nat × Value)) (ks : List Nat), i + 1 = kloop + 0 → i < (mp_sz cu (P y) : Int) → (∃ h : U, (∀ m, m < 880 → f m = cu (h * P z) m) ∧ ∀ k : Nat, cu h k = if i < (k : Int) then cu (P y) k else 0) → lv_pick lv ks = [(5, .int (iZ (i))), (4, .int (iZ ((mp_sz cu (P z) : Int) - 1))), (0, .ref (ad 0)), (1, .ref (ad (x))), (2, .ref (ad (y))), (3, .ref (ad (z)))] → Z p l e (zRm 1) s m args below meth c 7 D 18 ad A 0 0 Q 22 lv [] (gM ad cI (fa M x f)) := by
    intro kloop
    induction kloop with
    | zero =>
      intro i f lv ks e1loop e2loop h3 hlvloop
      refine z_sub ks hlvloop ?_
      refine z_iload X 0 rfl dX4_multiply_22 ?_
      refine z_if_lt X (tgt := 98) (by omega) dX4_multiply_24 (by decide) (fun hb24 => ?_) (fun hb24 => absurd hb24 (by omega))
      obtain ⟨h, a1, a2⟩ := h3
      have eh : h = P y := mp_ext HU (fun k => by rw [a2 k, if_pos (by omega)])
      exact E (fa M x f) (zN_fa hN hx f (P y * P z) (fun j hj => by rw [a1 j hj, eh]) (mz_mul HU hs)) rfl dX4_multiply_98
    | succ kloop ihloop =>
      intro i f lv ks e1loop e2loop h3 hlvloop
      refine z_sub ks hlvloop ?_
      refine z_iload X 0 rfl dX4_multiply_22 ?_
      refine z_if_lt X (tgt := 98) (by omega) dX4_multiply_24 (by decide) (fun hb24 => absurd hb24 (by omega)) (fun hb24 => ?_)
      refine z_aload_n X 4 rfl rfl dX4_multiply_27 ?_
      refine z_iload X 0 rfl dX4_multiply_28 ?_
      refine zn_ld X (zA_o hyA) 880 (zA_n hyA) (by omega) (by omega) (M.1 y (i).toNat) (by rw [fa_ne _ _ (by omega)]) dX4_multiply_30 ?_
      refine z_if_ne X (tgt := 37) (by have := vz_nn (M.1 y (i).toNat); have := vz_lt (M.1 y (i).toNat); omega) dX4_multiply_31 (by decide) (fun hb31 => ?_) (fun hb31 => ?_)
      · refine z_iconst X (n := 0) dX4_multiply_37 ?_
        refine z_istore X [(6, .int (iZ (0))), (5, .int (iZ (i))), (4, .int (iZ ((mp_sz cu (P z) : Int) - 1))), (0, .ref (ad 0)), (1, .ref (ad (x))), (2, .ref (ad (y))), (3, .ref (ad (z)))] rfl (by decide) dX4_multiply_38 ?_
        have loopI : ∀ (kloopI : Nat) (j : Int) (f1 : Nat → FP) (lv : List (Nat × Value)) (ks : List Nat), j + kloopI = (mp_sz cu (P z) : Int) - 1 + 1 → 0 ≤ j → (∀ m : Nat, m < 880 → f1 m = if i.toNat ≤ m ∧ (m : Int) - i < j then f m + cu (P y) i.toNat * cu (P z) (m - i.toNat) else f m) → lv_pick lv ks = [(6, .int (iZ (j))), (5, .int (iZ (i))), (4, .int (iZ ((mp_sz cu (P z) : Int) - 1))), (0, .ref (ad 0)), (1, .ref (ad (x))), (2, .ref (ad (y))), (3, .ref (ad (z)))] → Z p l e (zRm 1) s m args below meth c 7 D 18 ad A 0 0 Q 40 lv [] (gM ad cI (fa M x f1)) := by
          intro kloopI
          induction kloopI with
          | zero =>
            intro j f1 lv ks e1loopI e2loopI b1 hlvloopI
            refine z_sub ks hlvloopI ?_
            refine z_iload X 0 rfl dX4_multiply_40 ?_
            refine z_iload X 2 rfl dX4_multiply_42 ?_
            refine z_icmp_gt X (tgt := 92) (by omega) (by omega) dX4_multiply_44 (by decide) (fun hb44 => ?_) (fun hb44 => absurd hb44 (by omega))
            refine z_iinc X [(5, .int (iZ (i + -1))), (6, .int (iZ (j))), (4, .int (iZ ((mp_sz cu (P z) : Int) - 1))), (0, .ref (ad 0)), (1, .ref (ad (x))), (2, .ref (ad (y))), (3, .ref (ad (z)))] 1 rfl rfl (by decide) dX4_multiply_92 ?_
            refine z_goto X (tgt := 22) dX4_multiply_95 (by decide) ?_
            refine ihloop (i + -1) _ _ [0, 2, 3, 4, 5, 6] (by omega) (by omega) ?_ rfl
            obtain ⟨h, a1, a2⟩ := h3
            refine ⟨h + mp_m cu (cu (P y) i.toNat) i.toNat, fun m hm => ?_, fun k => ?_⟩
            · rw [b1 m hm, show (h + mp_m cu (cu (P y) i.toNat) i.toNat) * P z = h * P z + mp_m cu (cu (P y) i.toNat) i.toNat * P z by grind, mp_add HU, ← a1 m hm, mp_m_mul HU]
              by_cases e : i.toNat ≤ m
              · rw [if_pos e]
                by_cases e2 : (m : Int) - i < j
                · rw [if_pos ⟨e, e2⟩]
                · rw [if_neg (fun q => e2 q.2), mp_sz_out HU (a := P z) (n := m - i.toNat) (by omega)]; grind
              · rw [if_neg e, if_neg (fun q => e q.1)]; grind
            · rw [mp_add HU, a2 k, mp_m_cf HU]
              by_cases e : k = i.toNat
              · rw [if_pos e, if_neg (by omega), if_pos (by omega), e]; grind
              · rw [if_neg e]
                by_cases e2 : i < (k : Int)
                · rw [if_pos e2, if_pos (by omega)]; grind
                · rw [if_neg e2, if_neg (by omega)]; grind
          | succ kloopI ihloopI =>
            intro j f1 lv ks e1loopI e2loopI b1 hlvloopI
            refine z_sub ks hlvloopI ?_
            refine z_iload X 0 rfl dX4_multiply_40 ?_
            refine z_iload X 2 rfl dX4_multiply_42 ?_
            refine z_icmp_gt X (tgt := 92) (by omega) (by omega) dX4_multiply_44 (by decide) (fun hb44 => absurd hb44 (by omega)) (fun hb44 => ?_)
            refine z_aload_n X 6 rfl rfl dX4_multiply_47 ?_
            refine z_iload X 0 rfl dX4_multiply_48 ?_
            refine zn_ld X (zA_o hzA) 880 (zA_n hzA) (by omega) (by omega) (M.1 z (j).toNat) (by rw [fa_ne _ _ (by omega)]) dX4_multiply_50 ?_
            refine z_if_eq X (tgt := 86) (by have := vz_nn (M.1 z (j).toNat); have := vz_lt (M.1 z (j).toNat); omega) dX4_multiply_51 (by decide) (fun hb51 => ?_) (fun hb51 => ?_)
            · refine z_iinc X [(6, .int (iZ (j + 1))), (5, .int (iZ (i))), (4, .int (iZ ((mp_sz cu (P z) : Int) - 1))), (0, .ref (ad 0)), (1, .ref (ad (x))), (2, .ref (ad (y))), (3, .ref (ad (z)))] 0 rfl rfl (by decide) dX4_multiply_86 ?_
              refine z_goto X (tgt := 40) dX4_multiply_89 (by decide) ?_
              refine ihloopI (j + 1) _ _ [0, 1, 2, 3, 4, 5, 6] (by omega) (by omega) (fun m hm => ?_) rfl
              rw [b1 m hm]
              by_cases e : i.toNat ≤ m ∧ (m : Int) - i < j
              · rw [if_pos e, if_pos ⟨e.1, by omega⟩]
              · rw [if_neg e]
                by_cases e2 : i.toNat ≤ m ∧ (m : Int) - i < j + 1
                · rw [if_pos e2, show m - i.toNat = j.toNat by omega, ← zN_at hN hz (by omega), vz_z.mp hb51]; grind
                · rw [if_neg e2]
            · refine z_aload_n X 4 rfl rfl dX4_multiply_54 ?_
              refine z_iload X 1 rfl dX4_multiply_55 ?_
              refine z_iload X 0 rfl dX4_multiply_57 ?_
              refine z_iadd X dX4_multiply_59 ?_
              refine z_aload_n X 4 rfl rfl dX4_multiply_60 ?_
              refine z_iload X 1 rfl dX4_multiply_61 ?_
              refine z_iload X 0 rfl dX4_multiply_63 ?_
              refine z_iadd X dX4_multiply_65 ?_
              refine zn_ld X (zA_o hxA) 880 (zA_n hxA) (by omega) (by omega) (f1 (i + j).toNat) (by rw [fa_at]) dX4_multiply_66 ?_
              refine z_i2l X (vz_lo _) (vz_hi _) dX4_multiply_67 ?_
              refine z_aload_n X 5 rfl rfl dX4_multiply_68 ?_
              refine z_iload X 1 rfl dX4_multiply_69 ?_
              refine zn_ld X (zA_o hyA) 880 (zA_n hyA) (by omega) (by omega) (M.1 y (i).toNat) (by rw [fa_ne _ _ (by omega)]) dX4_multiply_71 ?_
              refine z_i2l X (vz_lo _) (vz_hi _) dX4_multiply_72 ?_
              refine z_aload_n X 6 rfl rfl dX4_multiply_73 ?_
              refine z_iload X 0 rfl dX4_multiply_74 ?_
              refine zn_ld X (zA_o hzA) 880 (zA_n hzA) (by omega) (by omega) (M.1 z (j).toNat) (by rw [fa_ne _ _ (by omega)]) dX4_multiply_76 ?_
              refine z_i2l X (vz_lo _) (vz_hi _) dX4_multiply_77 ?_
              refine z_lmul X dX4_multiply_78 ?_
              refine z_ladd X dX4_multiply_79 ?_
              refine z_ldc2Z X zw746 dX4_multiply_80 ?_
              have q1 := vz_nn (f1 (i + j).toNat)
              have q2 := vz_lt (f1 (i + j).toNat)
              have q3 := @vz_mul_nn (M.1 y (i).toNat) (M.1 z (j).toNat)
              have q4 := @vz_mul_lt (M.1 y (i).toNat) (M.1 z (j).toNat)
              refine z_lrem X (by omega) (by omega) dX4_multiply_83 ?_
              refine z_l2i X dX4_multiply_84 ?_
              refine z_eqi (b := vz (f1 (i + j).toNat + M.1 y (i).toNat * M.1 z (j).toNat)) (vz_am _ _ _) ?_
              refine zn_st X (zA_o hxA) 880 (zA_n hxA) (by omega) (by omega) (f1 (i + j).toNat + M.1 y (i).toNat * M.1 z (j).toNat) rfl (fa M x ((va_up f1 (i + j).toNat (f1 (i + j).toNat + M.1 y (i).toNat * M.1 z (j).toNat)))) (fa_st _ _ _ _ _) dX4_multiply_85 ?_
              refine z_iinc X [(6, .int (iZ (j + 1))), (5, .int (iZ (i))), (4, .int (iZ ((mp_sz cu (P z) : Int) - 1))), (0, .ref (ad 0)), (1, .ref (ad (x))), (2, .ref (ad (y))), (3, .ref (ad (z)))] 0 rfl rfl (by decide) dX4_multiply_86 ?_
              refine z_goto X (tgt := 40) dX4_multiply_89 (by decide) ?_
              refine ihloopI (j + 1) _ _ [0, 1, 2, 3, 4, 5, 6] (by omega) (by omega) (fun m hm => ?_) rfl
              by_cases e : m = (i + j).toNat
              · rw [e, va_up_self, if_pos ⟨by omega, by omega⟩, b1 _ (by omega), if_neg (fun q => by omega), zN_at hN hy (by omega), zN_at hN hz (by omega), show (i + j).toNat - i.toNat = j.toNat by omega]
              · rw [va_up_ne _ _ e, b1 m hm]
                by_cases e2 : i.toNat ≤ m ∧ (m : Int) - i < j
                · rw [if_pos e2, if_pos ⟨e2.1, by omega⟩]
                · rw [if_neg e2, if_neg (fun q => e2 ⟨q.1, by omega⟩)]
        exact loopI ((mp_sz cu (P z))) (0) f _ [0, 1, 2, 3, 4, 5, 6] (by omega) (by omega) (fun m hm => by rw [if_neg (fun q => by omega)]) rfl
      · refine z_goto X (tgt := 92) dX4_multiply_34 (by decide) ?_
        refine z_iinc X [(5, .int (iZ (i + -1))), (4, .int (iZ ((mp_sz cu (P z) : Int) - 1))), (0, .ref (ad 0)), (1, .ref (ad (x))), (2, .ref (ad (y))), (3, .ref (ad (z)))] 0 rfl rfl (by decide) dX4_multiply_92 ?_
        refine z_goto X (tgt := 22) dX4_multiply_95 (by decide) ?_
        refine ihloop (i + -1) _ _ [0, 1, 2, 3, 4, 5] (by omega) (by omega) ?_ rfl
        obtain ⟨h, a1, a2⟩ := h3
        refine ⟨h, a1, fun k => ?_⟩
        rw [a2 k]
        by_cases e : (k : Int) = i
        · rw [if_neg (by omega), if_pos (by omega), show k = i.toNat by omega, ← zN_at hN hy (by omega)]
          exact (vz_z.mp (by omega)).symm
        · by_cases e2 : i < (k : Int)
          · rw [if_pos e2, if_pos (by omega)]
          · rw [if_neg e2, if_neg (by omega)]
  exact loop ((mp_sz cu (P y))) (_) f0 _ [0, 1, 2, 3, 4, 5] (by omega) (by omega) ⟨0, fun m hm => by rw [hf0 m hm, show (0 : U) * P z = 0 by grind, mp_zero HU], fun k => by
    rw [mp_zero HU]
    by_cases e : (mp_sz cu (P y) : Int) - 1 < (k : Int)
    · rw [if_pos e, mp_sz_out HU (by omega)]
    · rw [if_neg e]⟩ rfl
set_option maxHeartbeats 8000000 in
set_option maxRecDepth 100000 in
theorem c_X4_makeMonic {U : Type} [Lean.Grind.CommRing U] {cu : U → Nat → FP} (HU : mp_P cu) (l : Launch) {D : va_G} {ad : Nat → Nat} {cI : ClassId} {P : Nat → U} {T : zTM} {M : zM} (hN : zN cu P T M) {x : Nat} (hx : zBx x) : zMv l yX4_makeMonic cX4_makeMonic 5 1 D (zTyM cI) 18 ad [.ref (ad 0), .ref (ad (x))] (gM ad cI M) (gM ad cI) (fun u => zN cu (va_up P x (mp_C cu (mf_inv (mp_lc cu (P x))) * P x)) T u) := by
  have hxA := zBx_A hx
  have hx9 := zA_o hxA
  have sx := zN_sz hN hx
  refine z_gov zm_X4_makeMonic (Nat.le_of_ble_eq_true rfl) [(0, .ref (ad 0)), (1, .ref (ad (x)))] rfl (fun p e s m args below meth c A Q X E => ?_)
  refine z_aload_n X 1 rfl rfl dX4_makeMonic_0 ?_
  refine z_sipush X (n := 880) (by decide) dX4_makeMonic_1 ?_
  refine z_callSi X zm_X4_head zw797 zw796 (zFit_of (by decide) (by decide)) [.ref (ad (x)), .int (iZ (880))] (c_X4_head l M hxA) rfl rfl (Nat.le_of_ble_eq_true rfl) dX4_makeMonic_4 (fun q4 _ h4 => ?_)
  have e4 := zhd HU (zN_at2 hN hx) (zN_sz hN hx) h4
  subst e4
  refine z_istore_n X [(2, .int (iZ ((mp_sz cu (P x) : Int) - 1))), (0, .ref (ad 0)), (1, .ref (ad (x)))] rfl rfl (by decide) dX4_makeMonic_7 ?_
  refine z_iload_n X 0 rfl rfl dX4_makeMonic_8 ?_
  refine z_if_ge X (tgt := 13) (by omega) dX4_makeMonic_9 (by decide) (fun hb9 => ?_) (fun hb9 => ?_)
  · refine z_aload_n X 2 rfl rfl dX4_makeMonic_13 ?_
    refine z_iload_n X 0 rfl rfl dX4_makeMonic_14 ?_
    refine zn_ld X (zA_o hxA) 880 (zA_n hxA) (by omega) (by omega) (mp_lc cu (P x)) (by rw [zN_at hN hx (by omega), mp_lc]; exact congrArg (cu (P x)) (by omega)) dX4_makeMonic_15 ?_
    refine z_callSi X zm_X4_inverse zw755 zw754 (zFit_of (by decide) (by decide)) [.int (iZ (vz (mp_lc cu (P x))))] (c_X4_inverse l (gM ad cI M) (mp_lc cu (P x))) rfl rfl (Nat.le_of_ble_eq_true rfl) dX4_makeMonic_16 (fun z _ hz => ?_)
    subst hz
    refine z_istore_n X [(3, .int (iZ (vz (mf_inv (mp_lc cu (P x)))))), (2, .int (iZ ((mp_sz cu (P x) : Int) - 1))), (0, .ref (ad 0)), (1, .ref (ad (x)))] rfl rfl (by decide) dX4_makeMonic_19 ?_
    refine z_iconst X (n := 0) dX4_makeMonic_20 ?_
    refine z_istore X [(4, .int (iZ (0))), (3, .int (iZ (vz (mf_inv (mp_lc cu (P x)))))), (2, .int (iZ ((mp_sz cu (P x) : Int) - 1))), (0, .ref (ad 0)), (1, .ref (ad (x)))] rfl (by decide) dX4_makeMonic_21 ?_
    rw [← fa_self M x]
    have loop : ∀ (kloop : Nat) (k : Int) (f : Nat → FP) (lv : List (Nat × Value)) (ks : List Nat), k + kloop = 880 → 0 ≤ k → (∀ j : Nat, j < 880 → f j = if (j : Int) < k then mf_inv (mp_lc cu (P x)) * M.1 x j else M.1 x j) → lv_pick lv ks = [(4, .int (iZ (k))), (3, .int (iZ (vz (mf_inv (mp_lc cu (P x)))))), (2, .int (iZ ((mp_sz cu (P x) : Int) - 1))), (0, .ref (ad 0)), (1, .ref (ad (x)))] → Z p l e (zRm 1) s m args below meth c 5 D 18 ad A 0 0 Q 23 lv [] (gM ad cI (fa M x f)) := by
      intro kloop
      induction kloop with
      | zero =>
        intro k f lv ks e1loop e2loop h3 hlvloop
        refine z_sub ks hlvloop ?_
        refine z_iload X 0 rfl dX4_makeMonic_23 ?_
        refine z_sipush X (n := 880) (by decide) dX4_makeMonic_25 ?_
        refine z_icmp_ge X (tgt := 54) (by omega) (by omega) dX4_makeMonic_28 (by decide) (fun hb28 => ?_) (fun hb28 => absurd hb28 (by omega))
        exact E (fa M x f) (zN_fa hN hx f _ (fun j hj => by rw [h3 j hj, if_pos (by omega), mp_C_mul HU, zN_at hN hx hj]) (mp_sz_le HU (fun j hj => by rw [mp_C_mul HU, mp_sz_out HU (by omega)]; grind))) rfl dX4_makeMonic_54
      | succ kloop ihloop =>
        intro k f lv ks e1loop e2loop h3 hlvloop
        refine z_sub ks hlvloop ?_
        refine z_iload X 0 rfl dX4_makeMonic_23 ?_
        refine z_sipush X (n := 880) (by decide) dX4_makeMonic_25 ?_
        refine z_icmp_ge X (tgt := 54) (by omega) (by omega) dX4_makeMonic_28 (by decide) (fun hb28 => absurd hb28 (by omega)) (fun hb28 => ?_)
        refine z_aload_n X 4 rfl rfl dX4_makeMonic_31 ?_
        refine z_iload X 0 rfl dX4_makeMonic_32 ?_
        refine z_aload_n X 4 rfl rfl dX4_makeMonic_34 ?_
        refine z_iload X 0 rfl dX4_makeMonic_35 ?_
        refine zn_ld X (zA_o hxA) 880 (zA_n hxA) (by omega) (by omega) (f (k).toNat) (by rw [fa_at]) dX4_makeMonic_37 ?_
        refine z_i2l X (vz_lo _) (vz_hi _) dX4_makeMonic_38 ?_
        refine z_iload_n X 1 rfl rfl dX4_makeMonic_39 ?_
        refine z_i2l X (vz_lo _) (vz_hi _) dX4_makeMonic_40 ?_
        refine z_lmul X dX4_makeMonic_41 ?_
        refine z_ldc2Z X zw746 dX4_makeMonic_42 ?_
        refine z_lrem X vz_mul_nn (by have := @vz_mul_lt; exact Int.lt_of_le_of_lt vz_mul_lt (by omega)) dX4_makeMonic_45 ?_
        refine z_l2i X dX4_makeMonic_46 ?_
        refine z_eqi (b := vz (mf_inv (mp_lc cu (P x)) * M.1 x (k).toNat)) (by rw [vz_m, h3 _ (by omega), if_neg (by omega)]; congr 1; grind) ?_
        refine zn_st X (zA_o hxA) 880 (zA_n hxA) (by omega) (by omega) (mf_inv (mp_lc cu (P x)) * M.1 x (k).toNat) rfl (fa M x ((va_up f (k).toNat (mf_inv (mp_lc cu (P x)) * M.1 x (k).toNat)))) (fa_st _ _ _ _ _) dX4_makeMonic_47 ?_
        refine z_iinc X [(4, .int (iZ (k + 1))), (3, .int (iZ (vz (mf_inv (mp_lc cu (P x)))))), (2, .int (iZ ((mp_sz cu (P x) : Int) - 1))), (0, .ref (ad 0)), (1, .ref (ad (x)))] 0 rfl rfl (by decide) dX4_makeMonic_48 ?_
        refine z_goto X (tgt := 23) dX4_makeMonic_51 (by decide) ?_
        refine ihloop (k + 1) _ _ [0, 1, 2, 3, 4] (by omega) (by omega) (fun j hj => ?_) rfl
        by_cases e : j = k.toNat
        · rw [e, va_up_self, if_pos (by omega)]
        · rw [va_up_ne _ _ e, h3 j hj]
          by_cases e2 : (j : Int) < k
          · rw [if_pos e2, if_pos (by omega)]
          · rw [if_neg e2, if_neg (by omega)]
    exact loop 880 (0) (M.1 x) _ [0, 1, 2, 3, 4] (by omega) (by omega) (fun j hj => by rw [if_neg (by omega)]) rfl
  · exact E M (zN_self hN (by rw [(mp_sz_0 HU).mp (by omega : mp_sz cu (P x) = 0)]; grind)) rfl dX4_makeMonic_12
set_option maxHeartbeats 8000000 in
set_option maxRecDepth 100000 in
theorem c_X4_divide {U : Type} [Lean.Grind.CommRing U] {cu : U → Nat → FP} (HU : mp_P cu) (l : Launch) {D : va_G} {ad : Nat → Nat} {cI : ClassId} {P : Nat → U} {T : zTM} {M : zM} (hN : zN cu P T M) {y : Nat} (hy : zBx y) (hy7 : y ≠ 7) (hy10 : y ≠ 10) {wq : U} (hn : P y ≠ 0) (he : P 10 = P y * wq) : zMv l yX4_divide cX4_divide 7 1 D (zTyM cI) 18 ad [.ref (ad 0), .ref (ad (y))] (gM ad cI M) (gM ad cI) (fun u => zN cu (va_up (va_up P 7 wq) 10 wq) T u) := by
  have hyA := zBx_A hy
  have hy9 := zA_o hyA
  have hy0 := mp_sz_pos HU hn
  have sy := zN_sz hN hy
  have s10 := zN_sz hN (x := 10) (by decide)
  have hFn := mp_dom HU (mp_Fd_nz mp_FP)
  have hsw : wq ≠ 0 → mp_sz cu (P 10) + 1 = mp_sz cu (P y) + mp_sz cu wq := fun q => by rw [he]; exact mp_sz_mul HU (mp_Fd_nz mp_FP) hn q
  have hw0 : wq = 0 → mp_sz cu wq = 0 := fun q => (mp_sz_0 HU).mpr q
  have hswl : mp_sz cu wq ≤ 880 := by
    by_cases q : wq = 0
    · rw [hw0 q]; omega
    · have := hsw q; omega
  have elc : cu (P y) (mp_sz cu (P y) - 1) = mp_lc cu (P y) := rfl
  have hlc := mp_lc_ne HU hn
  have hinv := mf_mul_inv hlc
  refine z_gov zm_X4_divide (Nat.le_of_ble_eq_true rfl) [(0, .ref (ad 0)), (1, .ref (ad (y)))] rfl (fun p e s m args below meth c A Q X E => ?_)
  refine z_aload_n X 1 rfl rfl dX4_divide_0 ?_
  refine z_sipush X (n := 880) (by decide) dX4_divide_1 ?_
  refine z_callSi X zm_X4_head zw797 zw796 (zFit_of (by decide) (by decide)) [.ref (ad (y)), .int (iZ (880))] (c_X4_head l M hyA) rfl rfl (Nat.le_of_ble_eq_true rfl) dX4_divide_4 (fun q4 _ h4 => ?_)
  have e4 := zhd HU (zN_at2 hN hy) (zN_sz hN hy) h4
  subst e4
  refine z_istore_n X [(2, .int (iZ ((mp_sz cu (P y) : Int) - 1))), (0, .ref (ad 0)), (1, .ref (ad (y)))] rfl rfl (by decide) dX4_divide_7 ?_
  refine z_aload_n X 2 rfl rfl dX4_divide_8 ?_
  refine z_iload_n X 0 rfl rfl dX4_divide_9 ?_
  refine zn_ld X (zA_o hyA) 880 (zA_n hyA) (by omega) (by omega) (mp_lc cu (P y)) (by rw [zN_at hN hy (by omega), ← elc]; exact congrArg (cu (P y)) (by omega)) dX4_divide_10 ?_
  refine z_callSi X zm_X4_inverse zw755 zw754 (zFit_of (by decide) (by decide)) [.int (iZ (vz (mp_lc cu (P y))))] (c_X4_inverse l (gM ad cI M) (mp_lc cu (P y))) rfl rfl (Nat.le_of_ble_eq_true rfl) dX4_divide_11 (fun z _ hz => ?_)
  subst hz
  refine z_istore_n X [(3, .int (iZ (vz (mf_inv (mp_lc cu (P y)))))), (2, .int (iZ ((mp_sz cu (P y) : Int) - 1))), (0, .ref (ad 0)), (1, .ref (ad (y)))] rfl rfl (by decide) dX4_divide_14 ?_
  refine z_aload_n X 2 rfl rfl dX4_divide_15 ?_
  refine z_get X zinX4 0 (by omega) gM_O (ci := 6) rfl 9 (by decide) (ref := "TowerFieldsModel") zw680 rfl rfl dX4_divide_16 ?_
  refine z_callSv X zm_X4_clear zw748 zw747 (zFit_of (by decide) (by decide)) [.ref (ad (7))] (c_X4_clear l M (x := 7) (zBx_A (by decide))) rfl rfl (Nat.le_of_ble_eq_true rfl) dX4_divide_19 (fun S1 hu1 => ?_)
  obtain ⟨f0, e0, hf0⟩ := hu1
  subst e0
  refine z_aload_n X 2 rfl rfl dX4_divide_22 ?_
  refine z_get X zinX4 0 (by omega) gM_O (ci := 6) rfl 12 (by decide) (ref := "TowerFieldsModel") zw683 rfl rfl dX4_divide_23 ?_
  refine z_sipush X (n := 880) (by decide) dX4_divide_26 ?_
  refine z_callSi X zm_X4_head zw797 zw796 (zFit_of (by decide) (by decide)) [.ref (ad (10)), .int (iZ (880))] (c_X4_head l (fa M 7 f0) (x := 10) (zBx_A (by decide))) rfl rfl (Nat.le_of_ble_eq_true rfl) dX4_divide_29 (fun q5 _ h5 => ?_)
  have e5 := zhd HU (zN_at2 hN (x := 10) (by decide)) (zN_sz hN (x := 10) (by decide)) (by rw [fa_ne _ _ (by omega)] at h5; exact h5)
  subst e5
  refine z_istore X [(4, .int (iZ ((mp_sz cu (P 10) : Int) - 1))), (3, .int (iZ (vz (mf_inv (mp_lc cu (P y)))))), (2, .int (iZ ((mp_sz cu (P y) : Int) - 1))), (0, .ref (ad 0)), (1, .ref (ad (y)))] rfl (by decide) dX4_divide_32 ?_
  rw [← fa_self (fa M 7 f0) 10, fa_ne _ _ (by omega : (10 : Nat) ≠ 7)]
  have loop : ∀ (kloop : Nat) (k : Int) (c9 : Nat → FP) (f : Nat → FP) (lv : List (Nat × Value)) (ks : List Nat), k + 1 ≤ kloop + (mp_sz cu (P y) : Int) - 1 → (-1 ≤ k ∧ k < 880) → (∃ r : U, (∀ m, m < 880 → f m = cu (P y * r) m) ∧ ∀ m : Nat, cu r m = if (m : Int) ≤ (k - ((mp_sz cu (P y) : Int) - 1)) then cu wq m else 0) → (∀ m : Nat, m < 880 → c9 m = if (k - ((mp_sz cu (P y) : Int) - 1)) < (m : Int) then cu wq m else 0) → lv_pick lv ks = [(4, .int (iZ (k))), (3, .int (iZ (vz (mf_inv (mp_lc cu (P y)))))), (2, .int (iZ ((mp_sz cu (P y) : Int) - 1))), (0, .ref (ad 0)), (1, .ref (ad (y)))] → Z p l e (zRm 1) s m args below meth c 7 D 18 ad A 0 0 Q 34 lv [] (gM ad cI (fa (fa M 7 c9) 10 f)) := by
    intro kloop
    induction kloop with
    | zero =>
      intro k c9 f lv ks e1loop e2loop h3 h4 hlvloop
      refine z_sub ks hlvloop ?_
      refine z_iload X 0 rfl dX4_divide_34 ?_
      refine z_iload_n X 2 rfl rfl dX4_divide_36 ?_
      refine z_icmp_lt X (tgt := 148) (by omega) (by omega) dX4_divide_37 (by decide) (fun hb37 => ?_) (fun hb37 => absurd hb37 (by omega))
      refine z_aload_n X 3 rfl rfl dX4_divide_148 ?_
      refine z_get X zinX4 0 (by omega) gM_O (ci := 6) rfl 12 (by decide) (ref := "TowerFieldsModel") zw683 rfl rfl dX4_divide_149 ?_
      refine z_aload_n X 3 rfl rfl dX4_divide_152 ?_
      refine z_get X zinX4 0 (by omega) gM_O (ci := 6) rfl 9 (by decide) (ref := "TowerFieldsModel") zw680 rfl rfl dX4_divide_153 ?_
      refine z_callSv X zm_X4_copy zw806 zw805 (zFit_of (by decide) (by decide)) [.ref (ad (10)), .ref (ad (7))] (c_X4_copy l (fa (fa M 7 c9) 10 f) (x := 10) (zBx_A (by decide)) (y := 7) (zBx_A (by decide)) (by omega)) rfl rfl (Nat.le_of_ble_eq_true rfl) dX4_divide_156 (fun S2 hu2 => ?_)
      obtain ⟨f2, e2, hf2⟩ := hu2
      rw [fa_ne _ _ (by omega : (7 : Nat) ≠ 10), fa_at] at hf2
      have hc9 : ∀ j, j < 880 → c9 j = cu wq j := fun j hj => by rw [h4 j hj, if_pos (by omega)]
      rw [fa_fa] at e2
      exact E S2 (by rw [e2]; exact zN_fa (zN_fa hN (x := 7) (by decide) c9 wq hc9 hswl) (x := 10) (by decide) f2 wq (fun j hj => by rw [hf2 j hj, hc9 j hj]) hswl) rfl dX4_divide_159
    | succ kloop ihloop =>
      intro k c9 f lv ks e1loop e2loop h3 h4 hlvloop
      refine z_sub ks hlvloop ?_
      refine z_iload X 0 rfl dX4_divide_34 ?_
      refine z_iload_n X 2 rfl rfl dX4_divide_36 ?_
      refine z_icmp_lt X (tgt := 148) (by omega) (by omega) dX4_divide_37 (by decide) (fun hb37 => ?_) (fun hb37 => ?_)
      · refine z_aload_n X 3 rfl rfl dX4_divide_148 ?_
        refine z_get X zinX4 0 (by omega) gM_O (ci := 6) rfl 12 (by decide) (ref := "TowerFieldsModel") zw683 rfl rfl dX4_divide_149 ?_
        refine z_aload_n X 3 rfl rfl dX4_divide_152 ?_
        refine z_get X zinX4 0 (by omega) gM_O (ci := 6) rfl 9 (by decide) (ref := "TowerFieldsModel") zw680 rfl rfl dX4_divide_153 ?_
        refine z_callSv X zm_X4_copy zw806 zw805 (zFit_of (by decide) (by decide)) [.ref (ad (10)), .ref (ad (7))] (c_X4_copy l (fa (fa M 7 c9) 10 f) (x := 10) (zBx_A (by decide)) (y := 7) (zBx_A (by decide)) (by omega)) rfl rfl (Nat.le_of_ble_eq_true rfl) dX4_divide_156 (fun S2 hu2 => ?_)
        obtain ⟨f2, e2, hf2⟩ := hu2
        rw [fa_ne _ _ (by omega : (7 : Nat) ≠ 10), fa_at] at hf2
        have hc9 : ∀ j, j < 880 → c9 j = cu wq j := fun j hj => by rw [h4 j hj, if_pos (by omega)]
        rw [fa_fa] at e2
        exact E S2 (by rw [e2]; exact zN_fa (zN_fa hN (x := 7) (by decide) c9 wq hc9 hswl) (x := 10) (by decide) f2 wq (fun j hj => by rw [hf2 j hj, hc9 j hj]) hswl) rfl dX4_divide_159
      · have hr0 := h3
        obtain ⟨r, a1, a2⟩ := hr0
        have htop : f k.toNat = mp_lc cu (P y) * cu wq (k - ((mp_sz cu (P y) : Int) - 1)).toNat := by
          rw [a1 _ (by omega), show k.toNat = (mp_sz cu (P y) - 1) + (k - ((mp_sz cu (P y) : Int) - 1)).toNat by omega, mz_top HU (fun j hj => mp_sz_out HU (by omega)) (fun j hj => by rw [a2 j, if_neg (by omega)]), elc, a2, if_pos (by omega)]
        refine z_aload_n X 3 rfl rfl dX4_divide_40 ?_
        refine z_get X zinX4 0 (by omega) gM_O (ci := 6) rfl 12 (by decide) (ref := "TowerFieldsModel") zw683 rfl rfl dX4_divide_41 ?_
        refine z_iload X 0 rfl dX4_divide_44 ?_
        refine zn_ld X (by decide) 880 rfl (by omega) (by omega) (f (k).toNat) (by rw [fa_at]) dX4_divide_46 ?_
        refine z_if_ne X (tgt := 53) (by have := vz_nn (f (k).toNat); have := vz_lt (f (k).toNat); omega) dX4_divide_47 (by decide) (fun hb47 => ?_) (fun hb47 => ?_)
        · refine z_aload_n X 3 rfl rfl dX4_divide_53 ?_
          refine z_get X zinX4 0 (by omega) gM_O (ci := 6) rfl 12 (by decide) (ref := "TowerFieldsModel") zw683 rfl rfl dX4_divide_54 ?_
          refine z_iload X 0 rfl dX4_divide_57 ?_
          refine zn_ld X (by decide) 880 rfl (by omega) (by omega) (f (k).toNat) (by rw [fa_at]) dX4_divide_59 ?_
          refine z_i2l X (vz_lo _) (vz_hi _) dX4_divide_60 ?_
          refine z_iload_n X 1 rfl rfl dX4_divide_61 ?_
          refine z_i2l X (vz_lo _) (vz_hi _) dX4_divide_62 ?_
          refine z_lmul X dX4_divide_63 ?_
          refine z_ldc2Z X zw746 dX4_divide_64 ?_
          refine z_lrem X vz_mul_nn (by have := @vz_mul_lt; exact Int.lt_of_le_of_lt vz_mul_lt (by omega)) dX4_divide_67 ?_
          refine z_l2i X dX4_divide_68 ?_
          refine z_eqi (b := vz (cu wq (k - ((mp_sz cu (P y) : Int) - 1)).toNat)) (by rw [vz_m, htop]; congr 1; grind) ?_
          refine z_istore X [(5, .int (iZ (vz (cu wq (k - ((mp_sz cu (P y) : Int) - 1)).toNat)))), (4, .int (iZ (k))), (3, .int (iZ (vz (mf_inv (mp_lc cu (P y)))))), (2, .int (iZ ((mp_sz cu (P y) : Int) - 1))), (0, .ref (ad 0)), (1, .ref (ad (y)))] rfl (by decide) dX4_divide_69 ?_
          refine z_aload_n X 4 rfl rfl dX4_divide_71 ?_
          refine z_get X zinX4 0 (by omega) gM_O (ci := 6) rfl 9 (by decide) (ref := "TowerFieldsModel") zw680 rfl rfl dX4_divide_72 ?_
          refine z_iload X 1 rfl dX4_divide_75 ?_
          refine z_iload_n X 3 rfl rfl dX4_divide_77 ?_
          refine z_isub X dX4_divide_78 ?_
          refine z_iload X 0 rfl dX4_divide_79 ?_
          refine zn_st X (by decide) 880 rfl (by omega) (by omega) (cu wq (k - ((mp_sz cu (P y) : Int) - 1)).toNat) rfl (fa (fa M 7 ((va_up c9 (k - ((mp_sz cu (P y) : Int) - 1)).toNat (cu wq (k - ((mp_sz cu (P y) : Int) - 1)).toNat)))) 10 f) (fa_st2 _ _ _ _ _ (by omega)) dX4_divide_81 ?_
          refine z_iconst X (n := 0) dX4_divide_82 ?_
          refine z_istore X [(6, .int (iZ (0))), (5, .int (iZ (vz (cu wq (k - ((mp_sz cu (P y) : Int) - 1)).toNat)))), (4, .int (iZ (k))), (3, .int (iZ (vz (mf_inv (mp_lc cu (P y)))))), (2, .int (iZ ((mp_sz cu (P y) : Int) - 1))), (0, .ref (ad 0)), (1, .ref (ad (y)))] rfl (by decide) dX4_divide_83 ?_
          have loopI : ∀ (kloopI : Nat) (j : Int) (f1 : Nat → FP) (lv : List (Nat × Value)) (ks : List Nat), j + kloopI = (mp_sz cu (P y) : Int) - 1 + 1 → 0 ≤ j → (∀ m : Nat, m < 880 → f1 m = if (k - ((mp_sz cu (P y) : Int) - 1)).toNat ≤ m ∧ (m : Int) - (k - ((mp_sz cu (P y) : Int) - 1)) < j then f m - cu wq (k - ((mp_sz cu (P y) : Int) - 1)).toNat * cu (P y) (m - (k - ((mp_sz cu (P y) : Int) - 1)).toNat) else f m) → lv_pick lv ks = [(6, .int (iZ (j))), (5, .int (iZ (vz (cu wq (k - ((mp_sz cu (P y) : Int) - 1)).toNat)))), (4, .int (iZ (k))), (3, .int (iZ (vz (mf_inv (mp_lc cu (P y)))))), (2, .int (iZ ((mp_sz cu (P y) : Int) - 1))), (0, .ref (ad 0)), (1, .ref (ad (y)))] → Z p l e (zRm 1) s m args below meth c 7 D 18 ad A 0 0 Q 85 lv [] (gM ad cI (fa (fa M 7 ((va_up c9 (k - ((mp_sz cu (P y) : Int) - 1)).toNat (cu wq (k - ((mp_sz cu (P y) : Int) - 1)).toNat)))) 10 f1)) := by
            intro kloopI
            induction kloopI with
            | zero =>
              intro j f1 lv ks e1loopI e2loopI b1 hlvloopI
              refine z_sub ks hlvloopI ?_
              refine z_iload X 0 rfl dX4_divide_85 ?_
              refine z_iload_n X 4 rfl rfl dX4_divide_87 ?_
              refine z_icmp_gt X (tgt := 142) (by omega) (by omega) dX4_divide_88 (by decide) (fun hb88 => ?_) (fun hb88 => absurd hb88 (by omega))
              refine z_iinc X [(4, .int (iZ (k + -1))), (6, .int (iZ (j))), (5, .int (iZ (vz (cu wq (k - ((mp_sz cu (P y) : Int) - 1)).toNat)))), (3, .int (iZ (vz (mf_inv (mp_lc cu (P y)))))), (2, .int (iZ ((mp_sz cu (P y) : Int) - 1))), (0, .ref (ad 0)), (1, .ref (ad (y)))] 2 rfl rfl (by decide) dX4_divide_142 ?_
              refine z_goto X (tgt := 34) dX4_divide_145 (by decide) ?_
              refine ihloop (k + -1) _ _ _ [0, 3, 4, 5, 6] (by omega) (by omega) ?_ ?_ rfl
              · refine ⟨r - mp_m cu (cu wq (k - ((mp_sz cu (P y) : Int) - 1)).toNat) (k - ((mp_sz cu (P y) : Int) - 1)).toNat, fun m hm => ?_, fun m => ?_⟩
                · rw [b1 m hm, show P y * (r - mp_m cu (cu wq (k - ((mp_sz cu (P y) : Int) - 1)).toNat) (k - ((mp_sz cu (P y) : Int) - 1)).toNat) = P y * r - mp_m cu (cu wq (k - ((mp_sz cu (P y) : Int) - 1)).toNat) (k - ((mp_sz cu (P y) : Int) - 1)).toNat * P y by grind, mp_sub HU, ← a1 m hm, mp_m_mul HU]
                  by_cases e : (k - ((mp_sz cu (P y) : Int) - 1)).toNat ≤ m
                  · rw [if_pos e]
                    by_cases e2 : (m : Int) - (k - ((mp_sz cu (P y) : Int) - 1)) < j
                    · rw [if_pos ⟨e, e2⟩]
                    · rw [if_neg (fun q => e2 q.2), mp_sz_out HU (a := P y) (n := m - (k - ((mp_sz cu (P y) : Int) - 1)).toNat) (by omega)]; grind
                  · rw [if_neg e, if_neg (fun q => e q.1)]; grind
                · rw [mp_sub HU, a2 m, mp_m_cf HU]
                  by_cases e : m = (k - ((mp_sz cu (P y) : Int) - 1)).toNat
                  · rw [if_pos e, if_pos (by omega), if_neg (by omega), e]; grind
                  · rw [if_neg e]
                    by_cases e2 : (m : Int) ≤ (k - ((mp_sz cu (P y) : Int) - 1))
                    · rw [if_pos e2, if_pos (by omega)]; grind
                    · rw [if_neg e2, if_neg (by omega)]; grind
              · intro m hm
                by_cases e : m = (k - ((mp_sz cu (P y) : Int) - 1)).toNat
                · rw [e, va_up_self, if_pos (by omega)]
                · rw [va_up_ne _ _ e, h4 m hm]
                  by_cases e2 : (k - ((mp_sz cu (P y) : Int) - 1)) < (m : Int)
                  · rw [if_pos e2, if_pos (by omega)]
                  · rw [if_neg e2, if_neg (by omega)]
            | succ kloopI ihloopI =>
              intro j f1 lv ks e1loopI e2loopI b1 hlvloopI
              refine z_sub ks hlvloopI ?_
              refine z_iload X 0 rfl dX4_divide_85 ?_
              refine z_iload_n X 4 rfl rfl dX4_divide_87 ?_
              refine z_icmp_gt X (tgt := 142) (by omega) (by omega) dX4_divide_88 (by decide) (fun hb88 => absurd hb88 (by omega)) (fun hb88 => ?_)
              refine z_aload_n X 6 rfl rfl dX4_divide_91 ?_
              refine z_iload X 0 rfl dX4_divide_92 ?_
              refine zn_ld X (zA_o hyA) 880 (zA_n hyA) (by omega) (by omega) (M.1 y (j).toNat) (by rw [fa_ne _ _ (by omega), fa_ne _ _ (by omega)]) dX4_divide_94 ?_
              refine z_if_eq X (tgt := 136) (by have := vz_nn (M.1 y (j).toNat); have := vz_lt (M.1 y (j).toNat); omega) dX4_divide_95 (by decide) (fun hb95 => ?_) (fun hb95 => ?_)
              · refine z_iinc X [(6, .int (iZ (j + 1))), (5, .int (iZ (vz (cu wq (k - ((mp_sz cu (P y) : Int) - 1)).toNat)))), (4, .int (iZ (k))), (3, .int (iZ (vz (mf_inv (mp_lc cu (P y)))))), (2, .int (iZ ((mp_sz cu (P y) : Int) - 1))), (0, .ref (ad 0)), (1, .ref (ad (y)))] 0 rfl rfl (by decide) dX4_divide_136 ?_
                refine z_goto X (tgt := 85) dX4_divide_139 (by decide) ?_
                refine ihloopI (j + 1) _ _ [0, 1, 2, 3, 4, 5, 6] (by omega) (by omega) (fun m hm => ?_) rfl
                rw [b1 m hm]
                by_cases e : (k - ((mp_sz cu (P y) : Int) - 1)).toNat ≤ m ∧ (m : Int) - (k - ((mp_sz cu (P y) : Int) - 1)) < j
                · rw [if_pos e, if_pos ⟨e.1, by omega⟩]
                · rw [if_neg e]
                  by_cases e2 : (k - ((mp_sz cu (P y) : Int) - 1)).toNat ≤ m ∧ (m : Int) - (k - ((mp_sz cu (P y) : Int) - 1)) < j + 1
                  · rw [if_pos e2, show m - (k - ((mp_sz cu (P y) : Int) - 1)).toNat = j.toNat by omega, ← zN_at hN hy (by omega), vz_z.mp hb95]; grind
                  · rw [if_neg e2]
              · refine z_aload_n X 5 rfl rfl dX4_divide_98 ?_
                refine z_get X zinX4 0 (by omega) gM_O (ci := 6) rfl 12 (by decide) (ref := "TowerFieldsModel") zw683 rfl rfl dX4_divide_99 ?_
                refine z_iload X 2 rfl dX4_divide_102 ?_
                refine z_iload_n X 4 rfl rfl dX4_divide_104 ?_
                refine z_isub X dX4_divide_105 ?_
                refine z_iload X 0 rfl dX4_divide_106 ?_
                refine z_iadd X dX4_divide_108 ?_
                refine z_aload_n X 5 rfl rfl dX4_divide_109 ?_
                refine z_get X zinX4 0 (by omega) gM_O (ci := 6) rfl 12 (by decide) (ref := "TowerFieldsModel") zw683 rfl rfl dX4_divide_110 ?_
                refine z_iload X 2 rfl dX4_divide_113 ?_
                refine z_iload_n X 4 rfl rfl dX4_divide_115 ?_
                refine z_isub X dX4_divide_116 ?_
                refine z_iload X 0 rfl dX4_divide_117 ?_
                refine z_iadd X dX4_divide_119 ?_
                refine zn_ld X (by decide) 880 rfl (by omega) (by omega) (f1 ((k - ((mp_sz cu (P y) : Int) - 1)) + j).toNat) (by rw [fa_at]) dX4_divide_120 ?_
                refine z_i2l X (vz_lo _) (vz_hi _) dX4_divide_121 ?_
                refine z_iload X 1 rfl dX4_divide_122 ?_
                refine z_i2l X (vz_lo _) (vz_hi _) dX4_divide_124 ?_
                refine z_aload_n X 6 rfl rfl dX4_divide_125 ?_
                refine z_iload X 0 rfl dX4_divide_126 ?_
                refine zn_ld X (zA_o hyA) 880 (zA_n hyA) (by omega) (by omega) (M.1 y (j).toNat) (by rw [fa_ne _ _ (by omega), fa_ne _ _ (by omega)]) dX4_divide_128 ?_
                refine z_i2l X (vz_lo _) (vz_hi _) dX4_divide_129 ?_
                refine z_lmul X dX4_divide_130 ?_
                refine z_lsub X dX4_divide_131 ?_
                have q1 := vz_nn (f1 (k - ((mp_sz cu (P y) : Int) - 1) + j).toNat)
                have q2 := vz_lt (f1 (k - ((mp_sz cu (P y) : Int) - 1) + j).toNat)
                have q3 := @vz_mul_nn (cu wq (k - ((mp_sz cu (P y) : Int) - 1)).toNat) (M.1 y (j).toNat)
                have q4 := @vz_mul_lt (cu wq (k - ((mp_sz cu (P y) : Int) - 1)).toNat) (M.1 y (j).toNat)
                refine z_callSi X zm_X4_modulo zw744 zw743 (zFit_of (by decide) (by decide)) [.long (lZ ((vz (f1 ((k - ((mp_sz cu (P y) : Int) - 1)) + j).toNat)) - ((vz (cu wq (k - ((mp_sz cu (P y) : Int) - 1)).toNat)) * (vz (M.1 y (j).toNat)))))] (c_X4_modulo l (gM ad cI (fa (fa M 7 ((va_up c9 (k - ((mp_sz cu (P y) : Int) - 1)).toNat (cu wq (k - ((mp_sz cu (P y) : Int) - 1)).toNat)))) 10 f1)) (a := vz (f1 (k - ((mp_sz cu (P y) : Int) - 1) + j).toNat) - vz (cu wq (k - ((mp_sz cu (P y) : Int) - 1)).toNat) * vz (M.1 y (j).toNat)) (by omega) (by omega)) rfl rfl (Nat.le_of_ble_eq_true rfl) dX4_divide_132 (fun z _ hz => ?_)
                subst hz
                refine z_eqi (b := vz (f (k - ((mp_sz cu (P y) : Int) - 1) + j).toNat - cu wq (k - ((mp_sz cu (P y) : Int) - 1)).toNat * cu (P y) (j).toNat)) (by rw [mI_sub, mI_mul, mI_vz, mI_vz, mI_vz, b1 _ (by omega), if_neg (fun q => by omega), zN_at hN hy (by omega)]) ?_
                refine zn_st X (by decide) 880 rfl (by omega) (by omega) (f (k - ((mp_sz cu (P y) : Int) - 1) + j).toNat - cu wq (k - ((mp_sz cu (P y) : Int) - 1)).toNat * cu (P y) (j).toNat) rfl (fa (fa M 7 ((va_up c9 (k - ((mp_sz cu (P y) : Int) - 1)).toNat (cu wq (k - ((mp_sz cu (P y) : Int) - 1)).toNat)))) 10 ((va_up f1 ((k - ((mp_sz cu (P y) : Int) - 1)) + j).toNat (f (k - ((mp_sz cu (P y) : Int) - 1) + j).toNat - cu wq (k - ((mp_sz cu (P y) : Int) - 1)).toNat * cu (P y) (j).toNat)))) (fa_st _ _ _ _ _) dX4_divide_135 ?_
                refine z_iinc X [(6, .int (iZ (j + 1))), (5, .int (iZ (vz (cu wq (k - ((mp_sz cu (P y) : Int) - 1)).toNat)))), (4, .int (iZ (k))), (3, .int (iZ (vz (mf_inv (mp_lc cu (P y)))))), (2, .int (iZ ((mp_sz cu (P y) : Int) - 1))), (0, .ref (ad 0)), (1, .ref (ad (y)))] 0 rfl rfl (by decide) dX4_divide_136 ?_
                refine z_goto X (tgt := 85) dX4_divide_139 (by decide) ?_
                refine ihloopI (j + 1) _ _ [0, 1, 2, 3, 4, 5, 6] (by omega) (by omega) (fun m hm => ?_) rfl
                by_cases e : m = ((k - ((mp_sz cu (P y) : Int) - 1)) + j).toNat
                · rw [e, va_up_self, if_pos ⟨by omega, by omega⟩, show ((k - ((mp_sz cu (P y) : Int) - 1)) + j).toNat - (k - ((mp_sz cu (P y) : Int) - 1)).toNat = j.toNat by omega]
                · rw [va_up_ne _ _ e, b1 m hm]
                  by_cases e2 : (k - ((mp_sz cu (P y) : Int) - 1)).toNat ≤ m ∧ (m : Int) - (k - ((mp_sz cu (P y) : Int) - 1)) < j
                  · rw [if_pos e2, if_pos ⟨e2.1, by omega⟩]
                  · rw [if_neg e2, if_neg (fun q => e2 ⟨q.1, by omega⟩)]
          exact loopI ((mp_sz cu (P y))) (0) f _ [0, 1, 2, 3, 4, 5, 6] (by omega) (by omega) (fun m hm => by rw [if_neg (fun q => by omega)]) rfl
        · refine z_goto X (tgt := 142) dX4_divide_50 (by decide) ?_
          refine z_iinc X [(4, .int (iZ (k + -1))), (3, .int (iZ (vz (mf_inv (mp_lc cu (P y)))))), (2, .int (iZ ((mp_sz cu (P y) : Int) - 1))), (0, .ref (ad 0)), (1, .ref (ad (y)))] 0 rfl rfl (by decide) dX4_divide_142 ?_
          refine z_goto X (tgt := 34) dX4_divide_145 (by decide) ?_
          refine ihloop (k + -1) _ _ _ [0, 1, 2, 3, 4] (by omega) (by omega) ?_ ?_ rfl
          · refine ⟨r, a1, fun m => ?_⟩
            rw [a2 m]
            by_cases e : (m : Int) = (k - ((mp_sz cu (P y) : Int) - 1))
            · rw [if_pos (by omega), if_neg (by omega), show m = (k - ((mp_sz cu (P y) : Int) - 1)).toNat by omega]
              rcases mf_nz (htop.symm.trans (vz_z.mp (by omega))) with q | q
              · exact absurd q hlc
              · exact q
            · by_cases e2 : (m : Int) ≤ (k - ((mp_sz cu (P y) : Int) - 1))
              · rw [if_pos e2, if_pos (by omega)]
              · rw [if_neg e2, if_neg (by omega)]
          · intro m hm
            rw [h4 m hm]
            by_cases e : (m : Int) = (k - ((mp_sz cu (P y) : Int) - 1))
            · rw [if_neg (by omega), if_pos (by omega), show m = (k - ((mp_sz cu (P y) : Int) - 1)).toNat by omega]
              rcases mf_nz (htop.symm.trans (vz_z.mp (by omega))) with q | q
              · exact absurd q hlc
              · exact q.symm
            · by_cases e2 : (k - ((mp_sz cu (P y) : Int) - 1)) < (m : Int)
              · rw [if_pos e2, if_pos (by omega)]
              · rw [if_neg e2, if_neg (by omega)]
  exact loop ((mp_sz cu (P 10))) (_) f0 (M.1 10) _ [0, 1, 2, 3, 4] (by omega) (by omega) ⟨wq, fun m hm => by rw [zN_at hN (x := 10) (by decide) hm, he], fun m => by
      by_cases e : (m : Int) ≤ (mp_sz cu (P 10) : Int) - 1 - ((mp_sz cu (P y) : Int) - 1)
      · rw [if_pos e]
      · rw [if_neg e]
        refine mp_sz_out HU ?_
        by_cases q : wq = 0
        · rw [hw0 q]; omega
        · have := hsw q; omega⟩ (fun m hm => by
      rw [hf0 m hm]
      by_cases e : (mp_sz cu (P 10) : Int) - 1 - ((mp_sz cu (P y) : Int) - 1) < (m : Int)
      · rw [if_pos e]
        refine (mp_sz_out HU ?_).symm
        by_cases q : wq = 0
        · rw [hw0 q]; omega
        · have := hsw q; omega
      · rw [if_neg e]) rfl
