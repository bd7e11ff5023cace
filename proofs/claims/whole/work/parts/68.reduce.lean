set_option maxHeartbeats 8000000 in
set_option maxRecDepth 100000 in
theorem c_X4_settle {U V : Type} [Lean.Grind.CommRing U] [Lean.Grind.CommRing V] {cu : U → Nat → FP} {ca : V → Nat → U} (HU : mp_P cu) (HA : mp_P ca) (l : Launch) {D : va_G} {ad : Nat → Nat} {cI : ClassId} {P : Nat → U} {T : zTM} {M : zM} (hN : zN cu P T M) (hq : mk_of cu ca (fun k => M.1 16 (2 * k)) ≠ 0) : zMv l yX4_settle cX4_settle 3 1 D (zTyM cI) 18 ad [.ref (ad 0)] (gM ad cI M) (gM ad cI) (fun u => zN cu (va_up (va_up P 10 (mp_C cu (mf_inv (mp_lc cu (mp_lc ca (mk_of cu ca (fun k => M.1 16 (2 * k)))))) * mk_K cu ca (mk_of cu ca (fun k => -M.1 16 (2 * k + 1))))) 11 (mp_C cu (mf_inv (mp_lc cu (mp_lc ca (mk_of cu ca (fun k => M.1 16 (2 * k)))))) * mk_K cu ca (mk_of cu ca (fun k => M.1 16 (2 * k))))) T u) := by
  obtain ⟨Qp, eQ⟩ : ∃ Qp, Qp = mk_of cu ca (fun k => M.1 16 (2 * k)) := ⟨_, rfl⟩
  obtain ⟨Pp, eP⟩ : ∃ Pp, Pp = mk_of cu ca (fun k => -M.1 16 (2 * k + 1)) := ⟨_, rfl⟩
  rw [← eQ, ← eP]
  rw [← eQ] at hq
  have bQ : mk_box cu ca Qp := by rw [eQ]; exact mk_of_box HU HA _
  have bP : mk_box cu ca Pp := by rw [eP]; exact mk_of_box HU HA _
  have xQ : mp_xz cu ca Qp ≤ 40 := Nat.le_trans bQ.2 (by omega)
  have xP : mp_xz cu ca Pp ≤ 40 := Nat.le_trans bP.2 (by omega)
  have sQ : mp_sz cu (mk_K cu ca Qp) ≤ 880 := Nat.le_trans (mk_sz HU HA xQ bQ.1) (by omega)
  have sP : mp_sz cu (mk_K cu ca Pp) ≤ 880 := Nat.le_trans (mk_sz HU HA xP bP.1) (by omega)
  have kQ : ∀ j, cu (mk_K cu ca Qp) j = if j / 40 < 7 ∧ j % 40 < 7 then M.1 16 (2 * (7 * (j / 40) + j % 40)) else 0 := fun j => by rw [mk_cf' HU HA xQ, eQ, mk_of_cf HU HA]
  have kP : ∀ j, cu (mk_K cu ca Pp) j = if j / 40 < 7 ∧ j % 40 < 7 then -M.1 16 (2 * (7 * (j / 40) + j % 40) + 1) else 0 := fun j => by rw [mk_cf' HU HA xP, eP, mk_of_cf HU HA]
  refine z_gov zm_X4_settle (Nat.le_of_ble_eq_true rfl) [(0, .ref (ad 0))] rfl (fun p e s m args below meth c A Q X E => ?_)
  refine z_aload_n X 0 rfl rfl dX4_settle_0 ?_
  refine z_get X zinX4 0 (by omega) gM_O (ci := 6) rfl 12 (by decide) (ref := "TowerFieldsModel") zw683 rfl rfl dX4_settle_1 ?_
  refine z_callSv X zm_X4_clear zw748 zw747 (zFit_of (by decide) (by decide)) [.ref (ad (10))] (c_X4_clear l M (x := 10) (zBx_A (by decide))) rfl rfl (Nat.le_of_ble_eq_true rfl) dX4_settle_4 (fun S1 hu1 => ?_)
  obtain ⟨f0, e0, hf0⟩ := hu1
  subst e0
  refine z_aload_n X 0 rfl rfl dX4_settle_7 ?_
  refine z_get X zinX4 0 (by omega) gM_O (ci := 6) rfl 13 (by decide) (ref := "TowerFieldsModel") zw684 rfl rfl dX4_settle_8 ?_
  refine z_callSv X zm_X4_clear zw748 zw747 (zFit_of (by decide) (by decide)) [.ref (ad (11))] (c_X4_clear l (fa M 10 f0) (x := 11) (zBx_A (by decide))) rfl rfl (Nat.le_of_ble_eq_true rfl) dX4_settle_11 (fun S2 hu2 => ?_)
  obtain ⟨g0, e0, hg0⟩ := hu2
  subst e0
  refine z_iconst X (n := 0) dX4_settle_14 ?_
  refine z_istore_n X [(1, .int (iZ (0))), (0, .ref (ad 0))] rfl rfl (by decide) dX4_settle_15 ?_
  have loop1 : ∀ (kloop1 : Nat) (i : Int) (f : Nat → FP) (g : Nat → FP) (lv : List (Nat × Value)) (ks : List Nat), i + kloop1 = 49 → 0 ≤ i → (∀ j : Nat, j < 880 → f j = (if (j / 40 < 7 ∧ j % 40 < 7) ∧ ((7 * (j / 40) + j % 40 : Nat) : Int) < i then -M.1 16 (2 * (7 * (j / 40) + j % 40) + 1) else 0)) → (∀ j : Nat, j < 880 → g j = (if (j / 40 < 7 ∧ j % 40 < 7) ∧ ((7 * (j / 40) + j % 40 : Nat) : Int) < i then M.1 16 (2 * (7 * (j / 40) + j % 40)) else 0)) → lv_pick lv ks = [(1, .int (iZ (i))), (0, .ref (ad 0))] → Z p l e (zRm 1) s m args below meth c 3 D 18 ad A 0 0 Q 16 lv [] (gM ad cI (fa (fa M 10 f) 11 g)) := by
    intro kloop1
    induction kloop1 with
    | zero =>
      intro i f g lv ks e1loop1 e2loop1 b1 b2 hlvloop1
      refine z_sub ks hlvloop1 ?_
      refine z_iload_n X 0 rfl rfl dX4_settle_16 ?_
      refine z_bipush X (n := 49) (by decide) dX4_settle_17 ?_
      refine z_icmp_ge X (tgt := 76) (by omega) (by omega) dX4_settle_19 (by decide) (fun hb19 => ?_) (fun hb19 => absurd hb19 (by omega))
      have kf : ∀ j, j < 880 → f j = cu (mk_K cu ca Pp) j := fun j hj => by
        rw [b1 j hj, kP]
        by_cases e : j / 40 < 7 ∧ j % 40 < 7
        · rw [if_pos e, if_pos ⟨e, by omega⟩]
        · rw [if_neg e, if_neg (fun q => e q.1)]
      have kg : ∀ j, j < 880 → g j = cu (mk_K cu ca Qp) j := fun j hj => by
        rw [b2 j hj, kQ]
        by_cases e : j / 40 < 7 ∧ j % 40 < 7
        · rw [if_pos e, if_pos ⟨e, by omega⟩]
        · rw [if_neg e, if_neg (fun q => e q.1)]
      clear b1 b2
      refine z_aload_n X 1 rfl rfl dX4_settle_76 ?_
      refine z_get X zinX4 0 (by omega) gM_O (ci := 6) rfl 13 (by decide) (ref := "TowerFieldsModel") zw684 rfl rfl dX4_settle_77 ?_
      refine z_aload_n X 1 rfl rfl dX4_settle_80 ?_
      refine z_get X zinX4 0 (by omega) gM_O (ci := 6) rfl 13 (by decide) (ref := "TowerFieldsModel") zw684 rfl rfl dX4_settle_81 ?_
      refine z_sipush X (n := 880) (by decide) dX4_settle_84 ?_
      refine z_callSi X zm_X4_head zw797 zw796 (zFit_of (by decide) (by decide)) [.ref (ad (11)), .int (iZ (880))] (c_X4_head l (fa (fa M 10 f) 11 g) (x := 11) (zBx_A (by decide))) rfl rfl (Nat.le_of_ble_eq_true rfl) dX4_settle_87 (fun q5 _ h5 => ?_)
      rw [fa_at] at h5
      have e5 := zhd HU kg sQ h5
      have hK := mk_lc HU HA hq xQ
      have hKp : 0 < mp_sz cu (mk_K cu ca Qp) := mp_sz_pos HU (fun e => hq ((mk_ne HU HA xQ).mp e))
      subst e5
      refine zn_ld X (by decide) 880 rfl (by omega) (by omega) (mp_lc cu (mp_lc ca Qp)) (by rw [fa_at, kg _ (by omega), ← hK.2, mp_lc]; exact congrArg (cu (mk_K cu ca Qp)) (by omega)) dX4_settle_90 ?_
      refine z_callSi X zm_X4_inverse zw755 zw754 (zFit_of (by decide) (by decide)) [.int (iZ (vz (mp_lc cu (mp_lc ca Qp))))] (c_X4_inverse l (gM ad cI (fa (fa M 10 f) 11 g)) (mp_lc cu (mp_lc ca Qp))) rfl rfl (Nat.le_of_ble_eq_true rfl) dX4_settle_91 (fun z _ hz => ?_)
      subst hz
      refine z_istore_n X [(1, .int (iZ (vz (mf_inv (mp_lc cu (mp_lc ca Qp)))))), (0, .ref (ad 0))] rfl rfl (by decide) dX4_settle_94 ?_
      refine z_iconst X (n := 0) dX4_settle_95 ?_
      refine z_istore_n X [(2, .int (iZ (0))), (1, .int (iZ (vz (mf_inv (mp_lc cu (mp_lc ca Qp)))))), (0, .ref (ad 0))] rfl rfl (by decide) dX4_settle_96 ?_
      have loopK : ∀ (kloopK : Nat) (k : Int) (f1 : Nat → FP) (g1 : Nat → FP) (lv : List (Nat × Value)) (ks : List Nat), k + kloopK = 880 → 0 ≤ k → (∀ j : Nat, j < 880 → f1 j = if (j : Int) < k then mf_inv (mp_lc cu (mp_lc ca Qp)) * f j else f j) → (∀ j : Nat, j < 880 → g1 j = if (j : Int) < k then mf_inv (mp_lc cu (mp_lc ca Qp)) * g j else g j) → lv_pick lv ks = [(2, .int (iZ (k))), (1, .int (iZ (vz (mf_inv (mp_lc cu (mp_lc ca Qp)))))), (0, .ref (ad 0))] → Z p l e (zRm 1) s m args below meth c 3 D 18 ad A 0 0 Q 97 lv [] (gM ad cI (fa (fa M 10 f1) 11 g1)) := by
        intro kloopK
        induction kloopK with
        | zero =>
          intro k f1 g1 lv ks e1loopK e2loopK d1 d2 hlvloopK
          refine z_sub ks hlvloopK ?_
          refine z_iload_n X 0 rfl rfl dX4_settle_97 ?_
          refine z_sipush X (n := 880) (by decide) dX4_settle_98 ?_
          refine z_icmp_ge X (tgt := 152) (by omega) (by omega) dX4_settle_101 (by decide) (fun hb101 => ?_) (fun hb101 => absurd hb101 (by omega))
          exact E (fa (fa M 10 f1) 11 g1) (zN_fa (zN_fa hN (x := 10) (by decide) f1 (mp_C cu (mf_inv (mp_lc cu (mp_lc ca Qp))) * mk_K cu ca Pp) (fun j hj => by rw [d1 j hj, if_pos (by omega), mp_C_mul HU, kf j hj]) (mp_sz_le HU (fun j hj => by rw [mp_C_mul HU, mp_sz_out HU (by omega)]; grind))) (x := 11) (by decide) g1 (mp_C cu (mf_inv (mp_lc cu (mp_lc ca Qp))) * mk_K cu ca Qp) (fun j hj => by rw [d2 j hj, if_pos (by omega), mp_C_mul HU, kg j hj]) (mp_sz_le HU (fun j hj => by rw [mp_C_mul HU, mp_sz_out HU (by omega)]; grind))) rfl dX4_settle_152
        | succ kloopK ihloopK =>
          intro k f1 g1 lv ks e1loopK e2loopK d1 d2 hlvloopK
          refine z_sub ks hlvloopK ?_
          refine z_iload_n X 0 rfl rfl dX4_settle_97 ?_
          refine z_sipush X (n := 880) (by decide) dX4_settle_98 ?_
          refine z_icmp_ge X (tgt := 152) (by omega) (by omega) dX4_settle_101 (by decide) (fun hb101 => absurd hb101 (by omega)) (fun hb101 => ?_)
          refine z_aload_n X 2 rfl rfl dX4_settle_104 ?_
          refine z_get X zinX4 0 (by omega) gM_O (ci := 6) rfl 12 (by decide) (ref := "TowerFieldsModel") zw683 rfl rfl dX4_settle_105 ?_
          refine z_iload_n X 0 rfl rfl dX4_settle_108 ?_
          refine z_aload_n X 2 rfl rfl dX4_settle_109 ?_
          refine z_get X zinX4 0 (by omega) gM_O (ci := 6) rfl 12 (by decide) (ref := "TowerFieldsModel") zw683 rfl rfl dX4_settle_110 ?_
          refine z_iload_n X 0 rfl rfl dX4_settle_113 ?_
          refine zn_ld X (by decide) 880 rfl (by omega) (by omega) (f1 (k).toNat) (by rw [fa_ne _ _ (by omega), fa_at]) dX4_settle_114 ?_
          refine z_i2l X (vz_lo _) (vz_hi _) dX4_settle_115 ?_
          refine z_iload_n X 1 rfl rfl dX4_settle_116 ?_
          refine z_i2l X (vz_lo _) (vz_hi _) dX4_settle_117 ?_
          refine z_lmul X dX4_settle_118 ?_
          refine z_ldc2Z X zw746 dX4_settle_119 ?_
          refine z_lrem X vz_mul_nn (by have := @vz_mul_lt; exact Int.lt_of_le_of_lt vz_mul_lt (by omega)) dX4_settle_122 ?_
          refine z_l2i X dX4_settle_123 ?_
          refine z_eqi (b := vz (mf_inv (mp_lc cu (mp_lc ca Qp)) * f (k).toNat)) (by rw [vz_m, d1 _ (by omega), if_neg (by omega)]; congr 1; grind) ?_
          refine zn_st X (by decide) 880 rfl (by omega) (by omega) (mf_inv (mp_lc cu (mp_lc ca Qp)) * f (k).toNat) rfl (fa (fa M 10 ((va_up f1 (k).toNat (mf_inv (mp_lc cu (mp_lc ca Qp)) * f (k).toNat)))) 11 g1) (fa_st2 _ _ _ _ _ (by omega)) dX4_settle_124 ?_
          refine z_aload_n X 2 rfl rfl dX4_settle_125 ?_
          refine z_get X zinX4 0 (by omega) gM_O (ci := 6) rfl 13 (by decide) (ref := "TowerFieldsModel") zw684 rfl rfl dX4_settle_126 ?_
          refine z_iload_n X 0 rfl rfl dX4_settle_129 ?_
          refine z_aload_n X 2 rfl rfl dX4_settle_130 ?_
          refine z_get X zinX4 0 (by omega) gM_O (ci := 6) rfl 13 (by decide) (ref := "TowerFieldsModel") zw684 rfl rfl dX4_settle_131 ?_
          refine z_iload_n X 0 rfl rfl dX4_settle_134 ?_
          refine zn_ld X (by decide) 880 rfl (by omega) (by omega) (g1 (k).toNat) (by rw [fa_at]) dX4_settle_135 ?_
          refine z_i2l X (vz_lo _) (vz_hi _) dX4_settle_136 ?_
          refine z_iload_n X 1 rfl rfl dX4_settle_137 ?_
          refine z_i2l X (vz_lo _) (vz_hi _) dX4_settle_138 ?_
          refine z_lmul X dX4_settle_139 ?_
          refine z_ldc2Z X zw746 dX4_settle_140 ?_
          refine z_lrem X vz_mul_nn (by have := @vz_mul_lt; exact Int.lt_of_le_of_lt vz_mul_lt (by omega)) dX4_settle_143 ?_
          refine z_l2i X dX4_settle_144 ?_
          refine z_eqi (b := vz (mf_inv (mp_lc cu (mp_lc ca Qp)) * g (k).toNat)) (by rw [vz_m, d2 _ (by omega), if_neg (by omega)]; congr 1; grind) ?_
          refine zn_st X (by decide) 880 rfl (by omega) (by omega) (mf_inv (mp_lc cu (mp_lc ca Qp)) * g (k).toNat) rfl (fa (fa M 10 ((va_up f1 (k).toNat (mf_inv (mp_lc cu (mp_lc ca Qp)) * f (k).toNat)))) 11 ((va_up g1 (k).toNat (mf_inv (mp_lc cu (mp_lc ca Qp)) * g (k).toNat)))) (fa_st _ _ _ _ _) dX4_settle_145 ?_
          refine z_iinc X [(2, .int (iZ (k + 1))), (1, .int (iZ (vz (mf_inv (mp_lc cu (mp_lc ca Qp)))))), (0, .ref (ad 0))] 0 rfl rfl (by decide) dX4_settle_146 ?_
          refine z_goto X (tgt := 97) dX4_settle_149 (by decide) ?_
          refine ihloopK (k + 1) _ _ _ [0, 1, 2] (by omega) (by omega) (fun j hj => ?_) (fun j hj => ?_) rfl
          · by_cases e : j = k.toNat
            · rw [e, va_up_self, if_pos (by omega)]
            · rw [va_up_ne _ _ e, d1 j hj]
              by_cases e2 : (j : Int) < k
              · rw [if_pos e2, if_pos (by omega)]
              · rw [if_neg e2, if_neg (by omega)]
          · by_cases e : j = k.toNat
            · rw [e, va_up_self, if_pos (by omega)]
            · rw [va_up_ne _ _ e, d2 j hj]
              by_cases e2 : (j : Int) < k
              · rw [if_pos e2, if_pos (by omega)]
              · rw [if_neg e2, if_neg (by omega)]
      exact loopK 880 (0) f g _ [0, 1, 2] (by omega) (by omega) (fun j hj => by rw [if_neg (by omega)]) (fun j hj => by rw [if_neg (by omega)]) rfl
    | succ kloop1 ihloop1 =>
      intro i f g lv ks e1loop1 e2loop1 b1 b2 hlvloop1
      refine z_sub ks hlvloop1 ?_
      refine z_iload_n X 0 rfl rfl dX4_settle_16 ?_
      refine z_bipush X (n := 49) (by decide) dX4_settle_17 ?_
      refine z_icmp_ge X (tgt := 76) (by omega) (by omega) dX4_settle_19 (by decide) (fun hb19 => absurd hb19 (by omega)) (fun hb19 => ?_)
      refine z_bipush X (n := 40) (by decide) dX4_settle_22 ?_
      refine z_iload_n X 0 rfl rfl dX4_settle_24 ?_
      refine z_bipush X (n := 7) (by decide) dX4_settle_25 ?_
      refine z_idiv X (by omega) (by omega) (by omega) (by omega) dX4_settle_27 ?_
      refine z_imul X dX4_settle_28 ?_
      refine z_iload_n X 0 rfl rfl dX4_settle_29 ?_
      refine z_bipush X (n := 7) (by decide) dX4_settle_30 ?_
      refine z_irem X (by omega) (by omega) (by omega) (by omega) dX4_settle_32 ?_
      refine z_iadd X dX4_settle_33 ?_
      refine z_istore_n X [(2, .int (iZ ((40 * ((i) / 7)) + ((i) % 7)))), (1, .int (iZ (i))), (0, .ref (ad 0))] rfl rfl (by decide) dX4_settle_34 ?_
      refine z_aload_n X 2 rfl rfl dX4_settle_35 ?_
      refine z_get X zinX4 0 (by omega) gM_O (ci := 6) rfl 13 (by decide) (ref := "TowerFieldsModel") zw684 rfl rfl dX4_settle_36 ?_
      refine z_iload_n X 0 rfl rfl dX4_settle_39 ?_
      refine z_aload_n X 2 rfl rfl dX4_settle_40 ?_
      refine z_get X zinX4 0 (by omega) gM_O (ci := 6) rfl 19 (by decide) (ref := "TowerFieldsModel") zw690 rfl rfl dX4_settle_41 ?_
      refine z_iconst X (n := 2) dX4_settle_44 ?_
      refine z_iload_n X 1 rfl rfl dX4_settle_45 ?_
      refine z_imul X dX4_settle_46 ?_
      refine zn_ld X (by decide) 98 rfl (by omega) (by omega) (M.1 16 (2 * i).toNat) (by rw [fa_ne _ _ (by omega), fa_ne _ _ (by omega)]) dX4_settle_47 ?_
      refine zn_st X (by decide) 880 rfl (by omega) (by omega) (M.1 16 (2 * i).toNat) rfl (fa (fa M 10 f) 11 ((va_up g ((40 * ((i) / 7)) + ((i) % 7)).toNat (M.1 16 (2 * i).toNat)))) (fa_st _ _ _ _ _) dX4_settle_48 ?_
      refine z_aload_n X 2 rfl rfl dX4_settle_49 ?_
      refine z_get X zinX4 0 (by omega) gM_O (ci := 6) rfl 12 (by decide) (ref := "TowerFieldsModel") zw683 rfl rfl dX4_settle_50 ?_
      refine z_iload_n X 0 rfl rfl dX4_settle_53 ?_
      refine z_aload_n X 2 rfl rfl dX4_settle_54 ?_
      refine z_get X zinX4 0 (by omega) gM_O (ci := 6) rfl 19 (by decide) (ref := "TowerFieldsModel") zw690 rfl rfl dX4_settle_55 ?_
      refine z_iconst X (n := 2) dX4_settle_58 ?_
      refine z_iload_n X 1 rfl rfl dX4_settle_59 ?_
      refine z_imul X dX4_settle_60 ?_
      refine z_iconst X (n := 1) dX4_settle_61 ?_
      refine z_iadd X dX4_settle_62 ?_
      refine zn_ld X (by decide) 98 rfl (by omega) (by omega) (M.1 16 ((2 * i) + 1).toNat) (by rw [fa_ne _ _ (by omega), fa_ne _ _ (by omega)]) dX4_settle_63 ?_
      have q1 := vz_nn (M.1 16 (2 * i + 1).toNat)
      have q2 := vz_lt (M.1 16 (2 * i + 1).toNat)
      refine z_ineg X dX4_settle_64 ?_
      refine z_i2l X (by omega) (by omega) dX4_settle_65 ?_
      refine z_callSi X zm_X4_modulo zw744 zw743 (zFit_of (by decide) (by decide)) [.long (lZ (-(vz (M.1 16 ((2 * i) + 1).toNat))))] (c_X4_modulo l (gM ad cI (fa (fa M 10 f) 11 ((va_up g ((40 * ((i) / 7)) + ((i) % 7)).toNat (M.1 16 (2 * i).toNat))))) (a := -(vz (M.1 16 (2 * i + 1).toNat))) (by omega) (by omega)) rfl rfl (Nat.le_of_ble_eq_true rfl) dX4_settle_66 (fun z _ hz => ?_)
      subst hz
      refine z_eqi (b := vz (-M.1 16 (2 * i + 1).toNat)) (by rw [mI_neg, mI_vz]) ?_
      refine zn_st X (by decide) 880 rfl (by omega) (by omega) (-M.1 16 (2 * i + 1).toNat) rfl (fa (fa M 10 ((va_up f ((40 * ((i) / 7)) + ((i) % 7)).toNat (-M.1 16 (2 * i + 1).toNat)))) 11 ((va_up g ((40 * ((i) / 7)) + ((i) % 7)).toNat (M.1 16 (2 * i).toNat)))) (fa_st2 _ _ _ _ _ (by omega)) dX4_settle_69 ?_
      refine z_iinc X [(1, .int (iZ (i + 1))), (2, .int (iZ ((40 * ((i) / 7)) + ((i) % 7)))), (0, .ref (ad 0))] 1 rfl rfl (by decide) dX4_settle_70 ?_
      refine z_goto X (tgt := 16) dX4_settle_73 (by decide) ?_
      refine ihloop1 (i + 1) _ _ _ [0, 2] (by omega) (by omega) (fun j hj => ?_) (fun j hj => ?_) rfl
      · by_cases e : j = (40 * (i / 7) + i % 7).toNat
        · rw [e, va_up_self, if_pos ⟨⟨by omega, by omega⟩, by omega⟩]
          exact congrArg (fun z => -M.1 16 z) (by omega)
        · rw [va_up_ne _ _ e, b1 j hj]
          by_cases e2 : (j / 40 < 7 ∧ j % 40 < 7) ∧ ((7 * (j / 40) + j % 40 : Nat) : Int) < i
          · rw [if_pos e2, if_pos ⟨e2.1, by omega⟩]
          · rw [if_neg e2, if_neg (fun q => e2 ⟨q.1, by omega⟩)]
      · by_cases e : j = (40 * (i / 7) + i % 7).toNat
        · rw [e, va_up_self, if_pos ⟨⟨by omega, by omega⟩, by omega⟩]
          exact congrArg (M.1 16) (by omega)
        · rw [va_up_ne _ _ e, b2 j hj]
          by_cases e2 : (j / 40 < 7 ∧ j % 40 < 7) ∧ ((7 * (j / 40) + j % 40 : Nat) : Int) < i
          · rw [if_pos e2, if_pos ⟨e2.1, by omega⟩]
          · rw [if_neg e2, if_neg (fun q => e2 ⟨q.1, by omega⟩)]
  exact loop1 49 (0) f0 g0 _ [0, 1] (by omega) (by omega) (fun j hj => by rw [hf0 j hj, if_neg (fun q => by omega)]) (fun j hj => by rw [hg0 j hj, if_neg (fun q => by omega)]) rfl
set_option maxHeartbeats 8000000 in
set_option maxRecDepth 100000 in
theorem c_X4_reduce {U V : Type} [Lean.Grind.CommRing U] [Lean.Grind.CommRing V] {cu : U → Nat → FP} {ca : V → Nat → U} (HU : mp_P cu) (HA : mp_P ca) (l : Launch) {D : va_G} {ad : Nat → Nat} {cI : ClassId} {P : Nat → U} {T : zTM} {M : zM} (hN : zN cu P T M) {a b : V} (ea : P 10 = mk_K cu ca a) (eb : P 11 = mk_K cu ca b) (hb0 : b ≠ 0) (ha1 : mp_xz cu ca a ≤ 34) (hb1 : mp_xz cu ca b ≤ 34) (ha2 : mp_sz ca a ≤ 15) (hb2 : mp_sz ca b ≤ 15) : zMi l yX4_reduce cX4_reduce 3 (some .boolean) 2 D (zTyM cI) 18 ad [.ref (ad 0)] (gM ad cI M) (gM ad cI) (fun z u => (z = 1 ∧ ∃ p q, zLow cu ca a b p q ∧ mk_box cu ca p ∧ mk_box cu ca q ∧ zN cu (va_up (va_up P 10 (mk_K cu ca p)) 11 (mk_K cu ca q)) T u) ∨ (z = 0 ∧ (∃ p q, zLow cu ca a b p q ∧ ¬ (mk_box cu ca p ∧ mk_box cu ca q)) ∧ zN cu P T u)) := by
  have hxa : mp_xz cu ca a ≤ 40 := by omega
  have hxb : mp_xz cu ca b ≤ 40 := by omega
  have szA := mk_sz HU HA hxa ha2
  have szB := mk_sz HU HA hxb hb2
  refine z_goz zm_X4_reduce (Nat.le_of_ble_eq_true rfl) [(0, .ref (ad 0))] rfl (fun p e s m args below meth c A Q X E => ?_)
  refine z_aload_n X 0 rfl rfl dX4_reduce_0 ?_
  refine z_iconst X (n := 0) dX4_reduce_1 ?_
  refine zn_pcolumns X dX4_reduce_2 ?_
  refine z_iconst X (n := 0) dX4_reduce_5 ?_
  refine z_istore_n X [(1, .int (iZ (0))), (0, .ref (ad 0))] rfl rfl (by decide) dX4_reduce_6 ?_
  obtain ⟨S0, eS0⟩ : ∃ S0, S0 = fcols M 0 := ⟨_, rfl⟩
  have N0 : zN cu P T S0 := by rw [eS0]; exact zN_cols hN 0
  have c0 : S0.2.2.2.2.2 = 2 * (0 : Int) := by rw [eS0]; rfl
  rw [show fcols M (0) = S0 from eS0.symm]
  have loop : ∀ (kloop : Nat) (i : Int) (S1 : zM) (lv : List (Nat × Value)) (ks : List Nat), i + kloop = 49 → 0 ≤ i → zN cu P T S1 → S1.2.2.2.2.2 = 2 * i → mh_I (fun k j => cu (mk_V cu ca a b k) j) (2 * i.toNat) (S1.1 13) (S1.1 14) S1.2.1 → lv_pick lv ks = [(1, .int (iZ (i))), (0, .ref (ad 0))] → Z p l e (zRm 2) s m args below meth c 3 D 18 ad A 0 0 Q 7 lv [] (gM ad cI S1) := by
    intro kloop
    induction kloop with
    | zero =>
      intro i S1 lv ks e1loop e2loop N1 hc1 h4 hlvloop
      refine z_sub ks hlvloop ?_
      refine z_iload_n X 0 rfl rfl dX4_reduce_7 ?_
      refine z_bipush X (n := 49) (by decide) dX4_reduce_8 ?_
      refine z_icmp_ge X (tgt := 70) (by omega) (by omega) dX4_reduce_10 (by decide) (fun hb10 => ?_) (fun hb10 => absurd hb10 (by omega))
      refine z_iconst X (n := 0) dX4_reduce_70 ?_
      exact E S1 (Or.inl rfl) (Or.inr ⟨rfl, mr_false HU HA hb0 ha1 hb1 (by rw [show 2 * i.toNat = 98 by omega] at h4; exact h4), N1⟩) rfl dX4_reduce_71
    | succ kloop ihloop =>
      intro i S1 lv ks e1loop e2loop N1 hc1 h4 hlvloop
      refine z_sub ks hlvloop ?_
      refine z_iload_n X 0 rfl rfl dX4_reduce_7 ?_
      refine z_bipush X (n := 49) (by decide) dX4_reduce_8 ?_
      refine z_icmp_ge X (tgt := 70) (by omega) (by omega) dX4_reduce_10 (by decide) (fun hb10 => absurd hb10 (by omega)) (fun hb10 => ?_)
      refine z_bipush X (n := 40) (by decide) dX4_reduce_13 ?_
      refine z_iload_n X 0 rfl rfl dX4_reduce_15 ?_
      refine z_bipush X (n := 7) (by decide) dX4_reduce_16 ?_
      refine z_idiv X (by omega) (by omega) (by omega) (by omega) dX4_reduce_18 ?_
      refine z_imul X dX4_reduce_19 ?_
      refine z_iload_n X 0 rfl rfl dX4_reduce_20 ?_
      refine z_bipush X (n := 7) (by decide) dX4_reduce_21 ?_
      refine z_irem X (by omega) (by omega) (by omega) (by omega) dX4_reduce_23 ?_
      refine z_iadd X dX4_reduce_24 ?_
      refine z_eqi (b := (((40 * (i / 7) + i % 7).toNat : Nat) : Int)) (by omega) ?_
      refine z_istore_n X [(2, .int (iZ ((((40 * (i / 7) + i % 7).toNat : Nat) : Int)))), (1, .int (iZ (i))), (0, .ref (ad 0))] rfl rfl (by decide) dX4_reduce_25 ?_
      refine z_aload_n X 2 rfl rfl dX4_reduce_26 ?_
      refine z_aload_n X 2 rfl rfl dX4_reduce_27 ?_
      refine z_get X zinX4 0 (by omega) gM_O (ci := 6) rfl 12 (by decide) (ref := "TowerFieldsModel") zw683 rfl rfl dX4_reduce_28 ?_
      refine z_iload_n X 0 rfl rfl dX4_reduce_31 ?_
      refine z_iconst X (n := 2) dX4_reduce_32 ?_
      refine z_iload_n X 1 rfl rfl dX4_reduce_33 ?_
      refine z_imul X dX4_reduce_34 ?_
      have hV1 : ∀ j, j < 880 → cu (mk_V cu ca a b (2 * i.toNat)) j = if (40 * (i / 7) + i % 7).toNat ≤ j then S1.1 10 (j - (40 * (i / 7) + i % 7).toNat) else 0 := fun j hj => by
        rw [mk_V_cf HU, show 40 * ((2 * i.toNat) / 2 / 7) + (2 * i.toNat) / 2 % 7 = (40 * (i / 7) + i % 7).toNat by omega, show (if (2 * i.toNat) % 2 = 0 then a else b) = a from if_pos (by omega)]
        split
        · rw [zN_at N1 (x := 10) (by decide) (by omega), ea]
        · rfl
      have hz1 : ∀ j, j < 880 → S1.1 10 j ≠ 0 → j + (40 * (i / 7) + i % 7).toNat < 880 := fun j hj h9 => by
        rw [zN_at N1 (x := 10) (by decide) hj, ea] at h9
        have := mp_sz_lt HU h9
        omega
      refine z_eqi (b := ((2 * i.toNat : Nat) : Int)) (by omega) ?_
      refine z_callVi X zm_X4_hangs zw814 zp36 zw812 (zFit_of (by decide) (by decide)) [.ref (ad (10)), .int (iZ ((((40 * (i / 7) + i % 7).toNat : Nat) : Int))), .int (iZ (((2 * i.toNat : Nat) : Int)))] (c_X4_hangs l S1 (x := 10) (zBx_A (by decide)) (by omega) (n := 2 * i.toNat) (by omega) (sh := (40 * (i / 7) + i % 7).toNat) (by omega) (Vc := fun k j => cu (mk_V cu ca a b k) j) hV1 hz1 (by omega) h4) rfl rfl (Nat.le_of_ble_eq_true rfl) (by omega) gM_O (q := vwCl[6]) rfl rfl dX4_reduce_35 (fun z1 S2 hu1 => ?_)
      obtain ⟨r1, hor1⟩ := hu1
      have N2 := zN_mh N1 r1
      refine z_if_ne X (tgt := 58) (by rcases hor1 with q | q <;> (have := q.1; omega)) dX4_reduce_38 (by decide) (fun hb38 => ?_) (fun hb38 => ?_)
      · obtain ⟨o1, o2, o3⟩ : S2.1 16 (2 * i.toNat) = 1 ∧ (∀ k, 2 * i.toNat < k → k < 98 → S2.1 16 k = 0) ∧ ∀ j, j < 880 → mp_S 98 (fun k => S2.1 16 k * cu (mk_V cu ca a b k) j) = 0 := by
          rcases hor1 with q | q
          · exact q.2
          · exact absurd q.1 (by omega)
        obtain ⟨hq9, hlow9⟩ := mr_true HU HA hb0 ha1 hb1 ha2 hb2 (n := 2 * i.toNat) (by omega) h4 o1 o2 o3
        refine z_aload_n X 2 rfl rfl dX4_reduce_58 ?_
        refine z_callVv X zm_X4_settle zw818 zp37 zw816 (zFit_of (by decide) (by decide)) [] (c_X4_settle HU HA l N2 hq9) rfl rfl (Nat.le_of_ble_eq_true rfl) (by omega) gM_O (q := vwCl[6]) rfl rfl dX4_reduce_59 (fun S9 hu9 => ?_)
        refine z_iconst X (n := 1) dX4_reduce_62 ?_
        exact E S9 (Or.inr rfl) (Or.inl ⟨rfl, _, _, hlow9, mz_box HU HA _ (mk_of_box HU HA _), mz_box HU HA _ (mk_of_box HU HA _), by rw [mk_mul HU HA, mk_C HU HA, mk_mul HU HA, mk_C HU HA]; exact hu9⟩) rfl dX4_reduce_63
      · have hI2 : S2.2.2.2.2.2 = ((2 * i.toNat : Nat) : Int) + 1 ∧ mh_I (fun k j => cu (mk_V cu ca a b k) j) (2 * i.toNat + 1) (S2.1 13) (S2.1 14) S2.2.1 := by
          rcases hor1 with q | q
          · exact absurd q.1 (by omega)
          · exact q.2
        obtain ⟨hc2, hI2⟩ := hI2
        refine z_aload_n X 2 rfl rfl dX4_reduce_41 ?_
        refine z_aload_n X 2 rfl rfl dX4_reduce_42 ?_
        refine z_get X zinX4 0 (by omega) gM_O (ci := 6) rfl 13 (by decide) (ref := "TowerFieldsModel") zw684 rfl rfl dX4_reduce_43 ?_
        refine z_iload_n X 0 rfl rfl dX4_reduce_46 ?_
        refine z_iconst X (n := 2) dX4_reduce_47 ?_
        refine z_iload_n X 1 rfl rfl dX4_reduce_48 ?_
        refine z_imul X dX4_reduce_49 ?_
        refine z_iconst X (n := 1) dX4_reduce_50 ?_
        refine z_iadd X dX4_reduce_51 ?_
        have hV2 : ∀ j, j < 880 → cu (mk_V cu ca a b (2 * i.toNat + 1)) j = if (40 * (i / 7) + i % 7).toNat ≤ j then S2.1 11 (j - (40 * (i / 7) + i % 7).toNat) else 0 := fun j hj => by
          rw [mk_V_cf HU, show 40 * ((2 * i.toNat + 1) / 2 / 7) + (2 * i.toNat + 1) / 2 % 7 = (40 * (i / 7) + i % 7).toNat by omega, show (if (2 * i.toNat + 1) % 2 = 0 then a else b) = b from if_neg (by omega)]
          split
          · rw [zN_at N2 (x := 11) (by decide) (by omega), eb]
          · rfl
        have hz2 : ∀ j, j < 880 → S2.1 11 j ≠ 0 → j + (40 * (i / 7) + i % 7).toNat < 880 := fun j hj h9 => by
          rw [zN_at N2 (x := 11) (by decide) hj, eb] at h9
          have := mp_sz_lt HU h9
          omega
        refine z_eqi (b := ((2 * i.toNat + 1 : Nat) : Int)) (by omega) ?_
        refine z_callVi X zm_X4_hangs zw814 zp36 zw812 (zFit_of (by decide) (by decide)) [.ref (ad (11)), .int (iZ ((((40 * (i / 7) + i % 7).toNat : Nat) : Int))), .int (iZ (((2 * i.toNat + 1 : Nat) : Int)))] (c_X4_hangs l S2 (x := 11) (zBx_A (by decide)) (by omega) (n := 2 * i.toNat + 1) (by omega) (sh := (40 * (i / 7) + i % 7).toNat) (by omega) (Vc := fun k j => cu (mk_V cu ca a b k) j) hV2 hz2 (by rw [hc2]; omega) hI2) rfl rfl (Nat.le_of_ble_eq_true rfl) (by omega) gM_O (q := vwCl[6]) rfl rfl dX4_reduce_52 (fun z2 S3 hu2 => ?_)
        obtain ⟨r2, hor2⟩ := hu2
        have N3 := zN_mh N2 r2
        refine z_if_eq X (tgt := 64) (by rcases hor2 with q | q <;> (have := q.1; omega)) dX4_reduce_55 (by decide) (fun hb55 => ?_) (fun hb55 => ?_)
        · have hI3 : S3.2.2.2.2.2 = ((2 * i.toNat + 1 : Nat) : Int) + 1 ∧ mh_I (fun k j => cu (mk_V cu ca a b k) j) (2 * i.toNat + 1 + 1) (S3.1 13) (S3.1 14) S3.2.1 := by
            rcases hor2 with q | q
            · exact absurd q.1 (by omega)
            · exact q.2
          obtain ⟨hc3, hI3⟩ := hI3
          refine z_iinc X [(1, .int (iZ (i + 1))), (2, .int (iZ ((((40 * (i / 7) + i % 7).toNat : Nat) : Int)))), (0, .ref (ad 0))] 1 rfl rfl (by decide) dX4_reduce_64 ?_
          refine z_goto X (tgt := 7) dX4_reduce_67 (by decide) ?_
          refine ihloop (i + 1) S3 _ [0, 2] (by omega) (by omega) N3 (by omega) (by rw [show 2 * (i + 1).toNat = 2 * i.toNat + 1 + 1 by omega]; exact hI3) rfl
        · obtain ⟨o1, o2, o3⟩ : S3.1 16 (2 * i.toNat + 1) = 1 ∧ (∀ k, 2 * i.toNat + 1 < k → k < 98 → S3.1 16 k = 0) ∧ ∀ j, j < 880 → mp_S 98 (fun k => S3.1 16 k * cu (mk_V cu ca a b k) j) = 0 := by
            rcases hor2 with q | q
            · exact q.2
            · exact absurd q.1 (by omega)
          obtain ⟨hq9, hlow9⟩ := mr_true HU HA hb0 ha1 hb1 ha2 hb2 (n := 2 * i.toNat + 1) (by omega) hI2 o1 o2 o3
          refine z_aload_n X 2 rfl rfl dX4_reduce_58 ?_
          refine z_callVv X zm_X4_settle zw818 zp37 zw816 (zFit_of (by decide) (by decide)) [] (c_X4_settle HU HA l N3 hq9) rfl rfl (Nat.le_of_ble_eq_true rfl) (by omega) gM_O (q := vwCl[6]) rfl rfl dX4_reduce_59 (fun S9 hu9 => ?_)
          refine z_iconst X (n := 1) dX4_reduce_62 ?_
          exact E S9 (Or.inr rfl) (Or.inl ⟨rfl, _, _, hlow9, mz_box HU HA _ (mk_of_box HU HA _), mz_box HU HA _ (mk_of_box HU HA _), by rw [mk_mul HU HA, mk_C HU HA, mk_mul HU HA, mk_C HU HA]; exact hu9⟩) rfl dX4_reduce_63
  exact loop 49 (0) S0 _ [0, 1] (by omega) (by omega) N0 c0 (fun q hq => by omega) rfl
