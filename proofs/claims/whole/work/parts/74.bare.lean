section
variable {U V : Type}
theorem mGcd_low [Lean.Grind.CommRing U] [Lean.Grind.CommRing V] {cu : U → Nat → FP} {ca : V → Nat → U} (HU : mp_P cu) (HA : mp_P ca) {r s : U} {d : V} (h : mGcd cu ca (mp_C ca r) (mp_C ca s) d) : ∃ c : U, d = mp_C ca c ∧ mp_D c r ∧ mp_D c s ∧ ((r ≠ 0 ∨ s ≠ 0) → c ≠ 0) := by
  have hU := mp_dom HU (mp_Fd_nz mp_FP)
  have hAd := mp_dom HA hU
  have hD : ∀ c q : U, mp_D (mp_C ca c) (mp_C ca q) → mp_D c q := fun c q ⟨z, hz⟩ => ⟨ca z 0, by
    have := congrArg (fun y => ca y 0) hz
    simp only [mp_C_mul HA, mp_C_cf HA, if_pos rfl] at this
    exact this⟩
  obtain ⟨d1, d2⟩ := mGcd_D h
  rcases h with ⟨h1, h2, h3⟩ | ⟨h1, x, y, h2, h3, h4⟩
  · have hr : r = 0 := mp_C_inj HA (h1.trans (mp_C_0 HA).symm)
    have hs : s = 0 := mp_C_inj HA (h2.trans (mp_C_0 HA).symm)
    exact ⟨0, by rw [h3, mp_C_0 HA], by rw [hr]; exact mp_D_rf 0, by rw [hs]; exact mp_D_rf 0, fun q => q.elim (fun q => absurd hr q) (fun q => absurd hs q)⟩
  · have hd : d ≠ 0 := fun q => mp_FP.2 (by rw [← h1, q, mp_lc, mp_lc, mp_zero HA, mp_zero HU])
    have hl : mp_sz ca d ≤ 1 := by
      by_cases hr : r = 0
      · by_cases hs : s = 0
        · have hx : x = 0 := (hAd.1 d x (by rw [← h2, hr, mp_C_0 HA])).resolve_left hd
          have hy : y = 0 := (hAd.1 d y (by rw [← h3, hs, mp_C_0 HA])).resolve_left hd
          rw [hx, hy] at h4
          obtain ⟨c, hc⟩ := h4 0 (mp_D_0 _) (mp_D_0 _)
          exact absurd (by rw [← hc]; grind : (1 : V) = 0) hAd.2
        · exact Nat.le_trans (mp_D_sz HA hU d2 (mp_C_ne HA hs)) (mp_sz_C HA s)
      · exact Nat.le_trans (mp_D_sz HA hU d1 (mp_C_ne HA hr)) (mp_sz_C HA r)
    have e := mp_sz_1 HA hl
    rw [e] at d1 d2
    exact ⟨ca d 0, e, hD _ _ d1, hD _ _ d2, fun _ q => hd (by rw [e, q, mp_C_0 HA])⟩
theorem md_Cmul [Lean.Grind.CommRing U] [Lean.Grind.CommRing V] {cu : U → Nat → FP} {ca : V → Nat → U} (HA : mp_P ca) (c : U) (a : V) : md_d ca (mp_C ca c * a) = mp_C ca c * md_d ca a := by
  rw [md_mul HA, md_C HA]
  grind
theorem zSq_1 [Lean.Grind.CommRing U] [Lean.Grind.CommRing V] {cu : U → Nat → FP} {ca : V → Nat → U} {a : V} (h : md_d ca a = 0) (hl : mp_lc cu (mp_lc ca a) = 1) : zSq cu ca a 1 := ⟨a, 0, by grind, by rw [h]; grind, fun d hd _ => mp_U_of_D hd ⟨1, by grind⟩, hl⟩
theorem zSq_n [Lean.Grind.CommRing U] [Lean.Grind.CommRing V] {cu : U → Nat → FP} {ca : V → Nat → U} (HU : mp_P cu) (HA : mp_P ca) {a a1 g p q : V} {c : U} (e1 : a = mp_C ca c * a1) (e2 : a1 = g * p) (e3 : md_d ca a1 = g * q) (hc : mp_Cp p q) (hl : mp_lc cu (mp_lc ca a) = 1) : zSq cu ca a (mp_C ca (mp_C cu (mf_inv (mp_lc cu (mp_lc ca p)))) * p) := by
  have hU := mp_dom HU (mp_Fd_nz mp_FP)
  have ha : a ≠ 0 := fun q => mp_FP.2 (by rw [← hl, q, mp_lc, mp_lc, mp_zero HA, mp_zero HU])
  have hp : p ≠ 0 := fun q => ha (by rw [e1, e2, q]; grind)
  have e := mz_mone HU HA hp
  have hm := mz_mon HU HA hp
  have hx0 : mp_C ca (mp_C cu (mf_inv (mp_lc cu (mp_lc ca p)))) * p ≠ 0 := fun q => mp_FP.2 (by rw [← hm, q, mp_lc, mp_lc, mp_zero HA, mp_zero HU])
  have ef : a = mp_C ca c * g * mp_C ca (mp_C cu (mp_lc cu (mp_lc ca p))) * (mp_C ca (mp_C cu (mf_inv (mp_lc cu (mp_lc ca p)))) * p) := by rw [e1, e2]; grind
  have hf0 : mp_C ca c * g * mp_C ca (mp_C cu (mp_lc cu (mp_lc ca p))) ≠ 0 := fun q => ha (by rw [ef, q]; grind)
  have hlf : mp_lc cu (mp_lc ca (mp_C ca c * g * mp_C ca (mp_C cu (mp_lc cu (mp_lc ca p))))) = 1 := by
    have h1 := (mp_lc_mul HA hU hf0 hx0).2
    have h2 := (mp_lc_mul HU (mp_Fd_nz mp_FP) (mp_lc_ne HA hf0) (mp_lc_ne HA hx0)).2
    rw [← h1, ← ef, hl, hm] at h2
    grind
  have hx : ∀ x d : V, mp_D d (mp_C ca (mp_C cu (mf_inv (mp_lc cu (mp_lc ca p)))) * x) → mp_D d x := fun x d hd => by
    obtain ⟨z, hz⟩ := hd
    exact ⟨z * mp_C ca (mp_C cu (mp_lc cu (mp_lc ca p))), by grind⟩
  exact ⟨_, mp_C ca (mp_C cu (mf_inv (mp_lc cu (mp_lc ca p)))) * q, ef, by rw [e1, md_Cmul (cu := cu) HA, e3]; grind, fun d h1 h2 => hc d (hx p d h1) (hx q d h2), hlf⟩
end
set_option maxHeartbeats 8000000 in
set_option maxRecDepth 100000 in
theorem q_bare {U V : Type} [Lean.Grind.CommRing U] [Lean.Grind.CommRing V] {cu : U → Nat → FP} {ca : V → Nat → U} (HU : mp_P cu) (HA : mp_P ca) (l : Launch) {D : va_G} {ad : Nat → Nat} {cI : ClassId} {F : Nat → V} {T : zTM} {M : zM} (hO : zO cu ca F T M) (b5 : zbb cu ca 7 7 (F 5)) (hl : mp_lc cu (mp_lc ca (F 5)) = 1) : zMv l yX4_bare cX4_bare 4 4 D (zTyM cI) 18 ad [.ref (ad 0)] (gM ad cI M) (gM ad cI) (fun u => ∃ F9, zO cu ca F9 T u ∧ zSq cu ca (F 5) (F9 5) ∧ F9 3 = F 3 ∧ F9 4 = F 4 ∧ zbb cu ca 7 7 (F9 5)) := by
  have hAd := mp_dom HA (mp_dom HU (mp_Fd_nz mp_FP))
  have hA0 : F 5 ≠ 0 := fun q => mp_FP.2 (by rw [← hl, q, mp_lc, mp_lc, mp_zero HA, mp_zero HU])
  have v0_3 : F 3 = F 3 := rfl
  have v0_4 : F 4 = F 4 := rfl
  have v0_5 : F 5 = F 5 := rfl
  have hszp := mp_sz_pos HA hA0
  have hrow : ∀ i, zbb cu ca 7 7 (mp_C ca (ca (F 5) i)) := fun i => ⟨Nat.le_trans (mp_sz_C HA _) (by omega), by rw [mp_xz_C HU HA]; exact Nat.le_trans (mp_xz_row HU HA _ i) b5.2⟩
  refine z_gov zm_X4_bare (Nat.le_of_ble_eq_true rfl) [(0, .ref (ad 0))] rfl (fun p e s m args below meth c A Q X E => ?_)
  refine z_aload_n X 0 rfl rfl dX4_bare_0 ?_
  refine z_get X zinX4 0 (by omega) gM_O (ci := 6) rfl 8 (by decide) (ref := "TowerFieldsModel") zw679 rfl rfl dX4_bare_1 ?_
  refine z_callSv X zm_X4_clear zw748 zw747 (zFit_of (by decide) (by decide)) [.ref (ad (6))] (q_clear HU HA l hO (x := 6) (by decide)) rfl rfl (Nat.le_of_ble_eq_true rfl) dX4_bare_4 (fun S1 O1 => ?_)
  obtain ⟨F1, eF1⟩ : ∃ Fz, Fz = va_up F 6 (0) := ⟨_, rfl⟩
  rw [← eF1] at O1
  have v1_6 : F1 6 = 0 := by rw [eF1, va_up_self]
  have v1_3 : F1 3 = F 3 := (congrFun eF1 3).trans ((va_up_ne _ _ (by omega)).trans v0_3)
  have v1_4 : F1 4 = F 4 := (congrFun eF1 4).trans ((va_up_ne _ _ (by omega)).trans v0_4)
  have v1_5 : F1 5 = F 5 := (congrFun eF1 5).trans ((va_up_ne _ _ (by omega)).trans v0_5)
  clear eF1
  refine z_aload_n X 0 rfl rfl dX4_bare_7 ?_
  refine z_get X zinX4 0 (by omega) gM_O (ci := 6) rfl 7 (by decide) (ref := "TowerFieldsModel") zw678 rfl rfl dX4_bare_8 ?_
  refine z_sipush X (n := 880) (by decide) dX4_bare_11 ?_
  refine z_callSi X zm_X4_head zw797 zw796 (zFit_of (by decide) (by decide)) [.ref (ad (5)), .int (iZ (880))] (c_X4_head l S1 (x := 5) (zBx_A (by decide))) rfl rfl (Nat.le_of_ble_eq_true rfl) dX4_bare_14 (fun q9 _ h9 => ?_)
  have e9 := zhd HU (by intro j hj; rw [zO_at O1 (x := 5) (by decide) j hj, v1_5]) (zO_sz HU HA (zbb_le b5 (by omega) (by omega))) h9
  have eK := mk_lc HU HA hA0 (Nat.le_trans b5.2 (by omega))
  have eK1 := mp_sz_pos HU (mp_lc_ne HA hA0)
  have eK2 : mp_sz cu (mp_lc ca (F 5)) ≤ 7 := Nat.le_trans (mp_xz_row HU HA _ _) b5.2
  subst e9
  refine z_bipush X (n := 40) (by decide) dX4_bare_17 ?_
  refine z_idiv X (by omega) (by omega) (by omega) (by omega) dX4_bare_19 ?_
  refine z_eqi (b := (mp_sz ca (F 5) : Int) - 1) (by omega) ?_
  refine z_istore_n X [(1, .int (iZ ((mp_sz ca (F 5) : Int) - 1))), (0, .ref (ad 0))] rfl rfl (by decide) dX4_bare_20 ?_
  refine z_iconst X (n := 0) dX4_bare_21 ?_
  refine z_istore_n X [(2, .int (iZ (0))), (1, .int (iZ ((mp_sz ca (F 5) : Int) - 1))), (0, .ref (ad 0))] rfl rfl (by decide) dX4_bare_22 ?_
  have loopK : ∀ (kloopK : Nat) (k : Int) (Sb : zM) (Fb : Nat → V) (cb : U) (lv : List (Nat × Value)) (ks : List Nat), k + kloopK = (mp_sz ca (F 5) : Int) - 1 + 1 → 0 ≤ k → zO cu ca Fb T Sb → Fb 3 = F 3 → Fb 4 = F 4 → Fb 5 = F 5 → Fb 6 = mp_C ca cb → zbb cu ca 7 7 (mp_C ca cb) → (∀ q : Nat, (q : Int) < k → mp_D cb (ca (F 5) q)) → ((∃ q : Nat, (q : Int) < k ∧ ca (F 5) q ≠ 0) → cb ≠ 0) → lv_pick lv ks = [(2, .int (iZ (k))), (1, .int (iZ ((mp_sz ca (F 5) : Int) - 1))), (0, .ref (ad 0))] → Z p l e (zRm 4) s m args below meth c 4 D 18 ad A 0 0 Q 23 lv [] (gM ad cI Sb) := by
    intro kloopK
    induction kloopK with
    | zero =>
      intro k Sb Fb cb lv ks e1loopK e2loopK N1 k3 k4 k5 k6 bcb c1 c2 hlvloopK
      refine z_sub ks hlvloopK ?_
      refine z_iload_n X 0 rfl rfl dX4_bare_23 ?_
      refine z_iload_n X 1 rfl rfl dX4_bare_24 ?_
      refine z_icmp_gt X (tgt := 109) (by omega) (by omega) dX4_bare_25 (by decide) (fun hb25 => ?_) (fun hb25 => absurd hb25 (by omega))
      have hcb : cb ≠ 0 := c2 ⟨mp_sz ca (F 5) - 1, by omega, mp_lc_ne HA hA0⟩
      obtain ⟨A1, eA1⟩ : mp_D (mp_C ca cb) (F 5) := (mp_C_D HA).mpr (fun q => by
        by_cases e : q < mp_sz ca (F 5)
        · exact c1 q (by omega)
        · rw [mp_sz_out HA (by omega)]; exact mp_D_0 cb)
      have hA10 : A1 ≠ 0 := fun q => hA0 (by rw [eA1, q]; grind)
      have bA1 : zbb cu ca 7 7 A1 := mz_Dbox HU HA ⟨mp_C ca cb, by rw [eA1]; grind⟩ hA0 b5
      have hCcb := mp_C_ne HA hcb
      refine z_aload_n X 2 rfl rfl dX4_bare_109 ?_
      refine z_get X zinX4 0 (by omega) gM_O (ci := 6) rfl 12 (by decide) (ref := "TowerFieldsModel") zw683 rfl rfl dX4_bare_110 ?_
      refine z_aload_n X 2 rfl rfl dX4_bare_113 ?_
      refine z_get X zinX4 0 (by omega) gM_O (ci := 6) rfl 7 (by decide) (ref := "TowerFieldsModel") zw678 rfl rfl dX4_bare_114 ?_
      refine z_callSv X zm_X4_copy zw806 zw805 (zFit_of (by decide) (by decide)) [.ref (ad (10)), .ref (ad (5))] (q_copy HU HA l N1 (x := 10) (y := 5) (by decide) (by decide) (by omega)) rfl rfl (Nat.le_of_ble_eq_true rfl) dX4_bare_117 (fun S2 O2 => ?_)
      obtain ⟨F2, eF2⟩ : ∃ Fz, Fz = va_up Fb 10 (Fb 5) := ⟨_, rfl⟩
      rw [← eF2] at O2
      have v2_10 : F2 10 = F 5 := by rw [eF2, va_up_self, k5]
      have v2_3 : F2 3 = F 3 := (congrFun eF2 3).trans ((va_up_ne _ _ (by omega)).trans k3)
      have v2_4 : F2 4 = F 4 := (congrFun eF2 4).trans ((va_up_ne _ _ (by omega)).trans k4)
      have v2_5 : F2 5 = F 5 := (congrFun eF2 5).trans ((va_up_ne _ _ (by omega)).trans k5)
      have v2_6 : F2 6 = mp_C ca cb := (congrFun eF2 6).trans ((va_up_ne _ _ (by omega)).trans k6)
      clear eF2
      refine z_aload_n X 2 rfl rfl dX4_bare_120 ?_
      refine z_get X zinX4 0 (by omega) gM_O (ci := 6) rfl 11 (by decide) (ref := "TowerFieldsModel") zw682 rfl rfl dX4_bare_121 ?_
      refine z_aload_n X 2 rfl rfl dX4_bare_124 ?_
      refine z_get X zinX4 0 (by omega) gM_O (ci := 6) rfl 8 (by decide) (ref := "TowerFieldsModel") zw679 rfl rfl dX4_bare_125 ?_
      refine z_callSv X zm_X4_copy zw806 zw805 (zFit_of (by decide) (by decide)) [.ref (ad (9)), .ref (ad (6))] (q_copy HU HA l O2 (x := 9) (y := 6) (by decide) (by decide) (by omega)) rfl rfl (Nat.le_of_ble_eq_true rfl) dX4_bare_128 (fun S3 O3 => ?_)
      obtain ⟨F3, eF3⟩ : ∃ Fz, Fz = va_up F2 9 (F2 6) := ⟨_, rfl⟩
      rw [← eF3] at O3
      have v3_9 : F3 9 = mp_C ca cb := by rw [eF3, va_up_self, v2_6]
      have v3_3 : F3 3 = F 3 := (congrFun eF3 3).trans ((va_up_ne _ _ (by omega)).trans v2_3)
      have v3_4 : F3 4 = F 4 := (congrFun eF3 4).trans ((va_up_ne _ _ (by omega)).trans v2_4)
      have v3_5 : F3 5 = F 5 := (congrFun eF3 5).trans ((va_up_ne _ _ (by omega)).trans v2_5)
      have v3_6 : F3 6 = mp_C ca cb := (congrFun eF3 6).trans ((va_up_ne _ _ (by omega)).trans v2_6)
      have v3_10 : F3 10 = F 5 := (congrFun eF3 10).trans ((va_up_ne _ _ (by omega)).trans v2_10)
      clear eF3
      refine z_aload_n X 2 rfl rfl dX4_bare_131 ?_
      refine z_aload_n X 2 rfl rfl dX4_bare_132 ?_
      refine z_get X zinX4 0 (by omega) gM_O (ci := 6) rfl 11 (by decide) (ref := "TowerFieldsModel") zw682 rfl rfl dX4_bare_133 ?_
      refine z_callVv X zm_X4_divide zw886 zp46 zw884 (zFit_of (by decide) (by decide)) [.ref (ad (9))] (q_divide HU HA l O3 (y := 9) (by decide) (by omega) (by omega) (wq := A1) (by rw [v3_9]; exact hCcb) (by rw [v3_10, v3_9]; exact eA1) (zbb_le bA1 (by omega) (by omega))) rfl rfl (Nat.le_of_ble_eq_true rfl) (by omega) gM_O (q := vwCl[6]) rfl rfl dX4_bare_136 (fun S4 O4 => ?_)
      obtain ⟨F4, eF4⟩ : ∃ Fz, Fz = va_up (va_up F3 7 (A1)) 10 (A1) := ⟨_, rfl⟩
      rw [← eF4] at O4
      have v4_10 : F4 10 = A1 := by rw [eF4, va_up_self]
      have v4_3 : F4 3 = F 3 := (congrFun eF4 3).trans ((va_up_ne _ _ (by omega)).trans ((va_up_ne _ _ (by omega)).trans v3_3))
      have v4_4 : F4 4 = F 4 := (congrFun eF4 4).trans ((va_up_ne _ _ (by omega)).trans ((va_up_ne _ _ (by omega)).trans v3_4))
      have v4_5 : F4 5 = F 5 := (congrFun eF4 5).trans ((va_up_ne _ _ (by omega)).trans ((va_up_ne _ _ (by omega)).trans v3_5))
      have v4_6 : F4 6 = mp_C ca cb := (congrFun eF4 6).trans ((va_up_ne _ _ (by omega)).trans ((va_up_ne _ _ (by omega)).trans v3_6))
      have v4_9 : F4 9 = mp_C ca cb := (congrFun eF4 9).trans ((va_up_ne _ _ (by omega)).trans ((va_up_ne _ _ (by omega)).trans v3_9))
      clear eF4
      refine z_aload_n X 2 rfl rfl dX4_bare_139 ?_
      refine z_get X zinX4 0 (by omega) gM_O (ci := 6) rfl 7 (by decide) (ref := "TowerFieldsModel") zw678 rfl rfl dX4_bare_140 ?_
      refine z_aload_n X 2 rfl rfl dX4_bare_143 ?_
      refine z_get X zinX4 0 (by omega) gM_O (ci := 6) rfl 12 (by decide) (ref := "TowerFieldsModel") zw683 rfl rfl dX4_bare_144 ?_
      refine z_callSv X zm_X4_copy zw806 zw805 (zFit_of (by decide) (by decide)) [.ref (ad (5)), .ref (ad (10))] (q_copy HU HA l O4 (x := 5) (y := 10) (by decide) (by decide) (by omega)) rfl rfl (Nat.le_of_ble_eq_true rfl) dX4_bare_147 (fun S5 O5 => ?_)
      obtain ⟨F5, eF5⟩ : ∃ Fz, Fz = va_up F4 5 (F4 10) := ⟨_, rfl⟩
      rw [← eF5] at O5
      have v5_5 : F5 5 = A1 := by rw [eF5, va_up_self, v4_10]
      have v5_3 : F5 3 = F 3 := (congrFun eF5 3).trans ((va_up_ne _ _ (by omega)).trans v4_3)
      have v5_4 : F5 4 = F 4 := (congrFun eF5 4).trans ((va_up_ne _ _ (by omega)).trans v4_4)
      have v5_6 : F5 6 = mp_C ca cb := (congrFun eF5 6).trans ((va_up_ne _ _ (by omega)).trans v4_6)
      have v5_10 : F5 10 = A1 := (congrFun eF5 10).trans ((va_up_ne _ _ (by omega)).trans v4_10)
      have v5_9 : F5 9 = mp_C ca cb := (congrFun eF5 9).trans ((va_up_ne _ _ (by omega)).trans v4_9)
      clear eF5
      refine z_aload_n X 2 rfl rfl dX4_bare_150 ?_
      refine z_get X zinX4 0 (by omega) gM_O (ci := 6) rfl 8 (by decide) (ref := "TowerFieldsModel") zw679 rfl rfl dX4_bare_151 ?_
      refine z_aload_n X 2 rfl rfl dX4_bare_154 ?_
      refine z_get X zinX4 0 (by omega) gM_O (ci := 6) rfl 7 (by decide) (ref := "TowerFieldsModel") zw678 rfl rfl dX4_bare_155 ?_
      refine z_bipush X (n := 40) (by decide) dX4_bare_158 ?_
      have bd6 : zbb cu ca 7 7 (md_d ca (A1)) := zbb_d HU HA bA1
      refine z_callSv X zm_X4_slope zw790 zw789 (zFit_of (by decide) (by decide)) [.ref (ad (6)), .ref (ad (5)), .int (iZ (40))] (q_slope40 HU HA l O5 (x := 6) (y := 5) (by decide) (by decide) (by omega)) rfl rfl (Nat.le_of_ble_eq_true rfl) dX4_bare_160 (fun S6 O6 => ?_)
      obtain ⟨F6, eF6⟩ : ∃ Fz, Fz = va_up F5 6 (md_d ca (F5 5)) := ⟨_, rfl⟩
      rw [← eF6] at O6
      have v6_6 : F6 6 = md_d ca (A1) := by rw [eF6, va_up_self, v5_5]
      have v6_3 : F6 3 = F 3 := (congrFun eF6 3).trans ((va_up_ne _ _ (by omega)).trans v5_3)
      have v6_4 : F6 4 = F 4 := (congrFun eF6 4).trans ((va_up_ne _ _ (by omega)).trans v5_4)
      have v6_5 : F6 5 = A1 := (congrFun eF6 5).trans ((va_up_ne _ _ (by omega)).trans v5_5)
      have v6_10 : F6 10 = A1 := (congrFun eF6 10).trans ((va_up_ne _ _ (by omega)).trans v5_10)
      have v6_9 : F6 9 = mp_C ca cb := (congrFun eF6 9).trans ((va_up_ne _ _ (by omega)).trans v5_9)
      clear eF6
      refine z_aload_n X 2 rfl rfl dX4_bare_163 ?_
      refine z_get X zinX4 0 (by omega) gM_O (ci := 6) rfl 8 (by decide) (ref := "TowerFieldsModel") zw679 rfl rfl dX4_bare_164 ?_
      refine z_callSi X zm_X4_isNone zw803 zw802 (zFit_of (by decide) (by decide)) [.ref (ad (6))] (q_isNone HU HA l O6 (x := 6) (by decide)) rfl rfl (Nat.le_of_ble_eq_true rfl) dX4_bare_167 (fun z167 _ hz167 => ?_)
      rw [v6_6] at hz167
      have hy167 : z167 = 0 ∨ z167 = 1 := hz167.elim (fun q => Or.inr q.1) (fun q => Or.inl q.1)
      refine z_if_eq X (tgt := 182) (by omega) dX4_bare_170 (by decide) (fun hb170 => ?_) (fun hb170 => ?_)
      · have hd1 : md_d ca A1 ≠ 0 := by
          rcases hz167 with q | q
          · omega
          · exact q.2
        refine z_aload_n X 2 rfl rfl dX4_bare_182 ?_
        refine z_get X zinX4 0 (by omega) gM_O (ci := 6) rfl 12 (by decide) (ref := "TowerFieldsModel") zw683 rfl rfl dX4_bare_183 ?_
        refine z_aload_n X 2 rfl rfl dX4_bare_186 ?_
        refine z_get X zinX4 0 (by omega) gM_O (ci := 6) rfl 7 (by decide) (ref := "TowerFieldsModel") zw678 rfl rfl dX4_bare_187 ?_
        refine z_callSv X zm_X4_copy zw806 zw805 (zFit_of (by decide) (by decide)) [.ref (ad (10)), .ref (ad (5))] (q_copy HU HA l O6 (x := 10) (y := 5) (by decide) (by decide) (by omega)) rfl rfl (Nat.le_of_ble_eq_true rfl) dX4_bare_190 (fun S8 O8 => ?_)
        obtain ⟨F8, eF8⟩ : ∃ Fz, Fz = va_up F6 10 (F6 5) := ⟨_, rfl⟩
        rw [← eF8] at O8
        have v8_10 : F8 10 = A1 := by rw [eF8, va_up_self, v6_5]
        have v8_3 : F8 3 = F 3 := (congrFun eF8 3).trans ((va_up_ne _ _ (by omega)).trans v6_3)
        have v8_4 : F8 4 = F 4 := (congrFun eF8 4).trans ((va_up_ne _ _ (by omega)).trans v6_4)
        have v8_5 : F8 5 = A1 := (congrFun eF8 5).trans ((va_up_ne _ _ (by omega)).trans v6_5)
        have v8_6 : F8 6 = md_d ca (A1) := (congrFun eF8 6).trans ((va_up_ne _ _ (by omega)).trans v6_6)
        have v8_9 : F8 9 = mp_C ca cb := (congrFun eF8 9).trans ((va_up_ne _ _ (by omega)).trans v6_9)
        clear eF8
        refine z_aload_n X 2 rfl rfl dX4_bare_193 ?_
        refine z_get X zinX4 0 (by omega) gM_O (ci := 6) rfl 13 (by decide) (ref := "TowerFieldsModel") zw684 rfl rfl dX4_bare_194 ?_
        refine z_aload_n X 2 rfl rfl dX4_bare_197 ?_
        refine z_get X zinX4 0 (by omega) gM_O (ci := 6) rfl 8 (by decide) (ref := "TowerFieldsModel") zw679 rfl rfl dX4_bare_198 ?_
        refine z_callSv X zm_X4_copy zw806 zw805 (zFit_of (by decide) (by decide)) [.ref (ad (11)), .ref (ad (6))] (q_copy HU HA l O8 (x := 11) (y := 6) (by decide) (by decide) (by omega)) rfl rfl (Nat.le_of_ble_eq_true rfl) dX4_bare_201 (fun S9 O9 => ?_)
        obtain ⟨F9, eF9⟩ : ∃ Fz, Fz = va_up F8 11 (F8 6) := ⟨_, rfl⟩
        rw [← eF9] at O9
        have v9_11 : F9 11 = md_d ca (A1) := by rw [eF9, va_up_self, v8_6]
        have v9_3 : F9 3 = F 3 := (congrFun eF9 3).trans ((va_up_ne _ _ (by omega)).trans v8_3)
        have v9_4 : F9 4 = F 4 := (congrFun eF9 4).trans ((va_up_ne _ _ (by omega)).trans v8_4)
        have v9_5 : F9 5 = A1 := (congrFun eF9 5).trans ((va_up_ne _ _ (by omega)).trans v8_5)
        have v9_6 : F9 6 = md_d ca (A1) := (congrFun eF9 6).trans ((va_up_ne _ _ (by omega)).trans v8_6)
        have v9_10 : F9 10 = A1 := (congrFun eF9 10).trans ((va_up_ne _ _ (by omega)).trans v8_10)
        have v9_9 : F9 9 = mp_C ca cb := (congrFun eF9 9).trans ((va_up_ne _ _ (by omega)).trans v8_9)
        clear eF9
        refine z_aload_n X 2 rfl rfl dX4_bare_204 ?_
        refine z_callVi X zm_X4_reduce zw810 zp35 zw808 (zFit_of (by decide) (by decide)) [] (q_reduce HU HA l O9 (by rw [v9_11]; exact hd1) (by rw [v9_10]; exact zbb_le bA1 (by omega) (by omega)) (by rw [v9_11]; exact zbb_le (zbb_d HU HA bA1) (by omega) (by omega))) rfl rfl (Nat.le_of_ble_eq_true rfl) (by omega) gM_O (q := vwCl[6]) rfl rfl dX4_bare_205 (fun z10 S10 hz10 => ?_)
        rw [v9_10, v9_11] at hz10
        obtain ⟨pp, qq, ⟨gg, g1, g2, g3, g4⟩, hbp, hbq, O10⟩ : ∃ p q, zLow cu ca A1 (md_d ca A1) p q ∧ mk_box cu ca p ∧ mk_box cu ca q ∧ zO cu ca (va_up (va_up F9 10 p) 11 q) T S10 := by
          rcases hz10 with q | ⟨_, ⟨p, q, q1, q2⟩, _⟩
          · exact q.2
          · obtain ⟨g, r1, r2, -, -⟩ := q1
            exact absurd ⟨mz_Dbox HU HA ⟨g, by rw [r1]; grind⟩ hA10 bA1, mz_Dbox HU HA ⟨g, by rw [r2]; grind⟩ hd1 (zbb_d HU HA bA1)⟩ q2
        obtain ⟨F10, eF10⟩ : ∃ Fz, Fz = va_up (va_up F9 10 pp) 11 qq := ⟨_, rfl⟩
        rw [← eF10] at O10
        have v10_10 : F10 10 = pp := by rw [eF10, va_up_ne _ _ (by omega), va_up_self]
        have v10_3 : F10 3 = F 3 := (congrFun eF10 3).trans ((va_up_ne _ _ (by omega)).trans ((va_up_ne _ _ (by omega)).trans v9_3))
        have v10_4 : F10 4 = F 4 := (congrFun eF10 4).trans ((va_up_ne _ _ (by omega)).trans ((va_up_ne _ _ (by omega)).trans v9_4))
        clear eF10
        refine z_pop X rfl dX4_bare_208 ?_
        refine z_aload_n X 2 rfl rfl dX4_bare_209 ?_
        refine z_get X zinX4 0 (by omega) gM_O (ci := 6) rfl 7 (by decide) (ref := "TowerFieldsModel") zw678 rfl rfl dX4_bare_210 ?_
        refine z_aload_n X 2 rfl rfl dX4_bare_213 ?_
        refine z_get X zinX4 0 (by omega) gM_O (ci := 6) rfl 12 (by decide) (ref := "TowerFieldsModel") zw683 rfl rfl dX4_bare_214 ?_
        refine z_callSv X zm_X4_copy zw806 zw805 (zFit_of (by decide) (by decide)) [.ref (ad (5)), .ref (ad (10))] (q_copy HU HA l O10 (x := 5) (y := 10) (by decide) (by decide) (by omega)) rfl rfl (Nat.le_of_ble_eq_true rfl) dX4_bare_217 (fun S11 O11 => ?_)
        obtain ⟨F11, eF11⟩ : ∃ Fz, Fz = va_up F10 5 (F10 10) := ⟨_, rfl⟩
        rw [← eF11] at O11
        have v11_5 : F11 5 = pp := by rw [eF11, va_up_self, v10_10]
        have v11_3 : F11 3 = F 3 := (congrFun eF11 3).trans ((va_up_ne _ _ (by omega)).trans v10_3)
        have v11_4 : F11 4 = F 4 := (congrFun eF11 4).trans ((va_up_ne _ _ (by omega)).trans v10_4)
        have v11_10 : F11 10 = pp := (congrFun eF11 10).trans ((va_up_ne _ _ (by omega)).trans v10_10)
        clear eF11
        refine z_aload_n X 2 rfl rfl dX4_bare_220 ?_
        refine z_aload_n X 2 rfl rfl dX4_bare_221 ?_
        refine z_get X zinX4 0 (by omega) gM_O (ci := 6) rfl 7 (by decide) (ref := "TowerFieldsModel") zw678 rfl rfl dX4_bare_222 ?_
        refine z_callVv X zm_X4_makeMonic zw882 zp45 zw880 (zFit_of (by decide) (by decide)) [.ref (ad (5))] (q_makeMonic HU HA l O11 (x := 5) (by decide)) rfl rfl (Nat.le_of_ble_eq_true rfl) (by omega) gM_O (q := vwCl[6]) rfl rfl dX4_bare_225 (fun S12 O12 => ?_)
        obtain ⟨F12, eF12⟩ : ∃ Fz, Fz = va_up F11 5 (mp_C ca (mp_C cu (mf_inv (mp_lc cu (mp_lc ca (F11 5))))) * (F11 5)) := ⟨_, rfl⟩
        rw [← eF12] at O12
        have v12_5 : F12 5 = mp_C ca (mp_C cu (mf_inv (mp_lc cu (mp_lc ca (pp))))) * pp := by rw [eF12, va_up_self, v11_5]
        have v12_3 : F12 3 = F 3 := (congrFun eF12 3).trans ((va_up_ne _ _ (by omega)).trans v11_3)
        have v12_4 : F12 4 = F 4 := (congrFun eF12 4).trans ((va_up_ne _ _ (by omega)).trans v11_4)
        have v12_10 : F12 10 = pp := (congrFun eF12 10).trans ((va_up_ne _ _ (by omega)).trans v11_10)
        clear eF12
        exact E S12 ⟨F12, O12, by rw [v12_5]; exact zSq_n HU HA eA1 g1 g2 g3 hl, v12_3, v12_4, by rw [v12_5]; exact zbb_CC HU HA _ hbp⟩ rfl dX4_bare_228
      · refine z_aload_n X 2 rfl rfl dX4_bare_173 ?_
        refine z_aload_n X 2 rfl rfl dX4_bare_174 ?_
        refine z_get X zinX4 0 (by omega) gM_O (ci := 6) rfl 7 (by decide) (ref := "TowerFieldsModel") zw678 rfl rfl dX4_bare_175 ?_
        refine z_callVv X zm_X4_one zw752 zp27 zw750 (zFit_of (by decide) (by decide)) [.ref (ad (5))] (q_one HU HA l O6 (x := 5) (by decide)) rfl rfl (Nat.le_of_ble_eq_true rfl) (by omega) gM_O (q := vwCl[6]) rfl rfl dX4_bare_178 (fun S13 O13 => ?_)
        obtain ⟨F13, eF13⟩ : ∃ Fz, Fz = va_up F6 5 (1) := ⟨_, rfl⟩
        rw [← eF13] at O13
        have v13_5 : F13 5 = 1 := by rw [eF13, va_up_self]
        have v13_3 : F13 3 = F 3 := (congrFun eF13 3).trans ((va_up_ne _ _ (by omega)).trans v6_3)
        have v13_4 : F13 4 = F 4 := (congrFun eF13 4).trans ((va_up_ne _ _ (by omega)).trans v6_4)
        have v13_6 : F13 6 = md_d ca (A1) := (congrFun eF13 6).trans ((va_up_ne _ _ (by omega)).trans v6_6)
        have v13_10 : F13 10 = A1 := (congrFun eF13 10).trans ((va_up_ne _ _ (by omega)).trans v6_10)
        have v13_9 : F13 9 = mp_C ca cb := (congrFun eF13 9).trans ((va_up_ne _ _ (by omega)).trans v6_9)
        clear eF13
        have hd0 : md_d ca A1 = 0 := by
          rcases hz167 with q | q
          · exact q.2
          · omega
        exact E S13 ⟨F13, O13, by rw [v13_5]; exact zSq_1 (by rw [eA1, md_Cmul (cu := cu) HA, hd0]; grind) hl, v13_3, v13_4, by rw [v13_5]; exact zbb_le (zbb_1 HU HA) (by omega) (by omega)⟩ rfl dX4_bare_181
    | succ kloopK ihloopK =>
      intro k Sb Fb cb lv ks e1loopK e2loopK N1 k3 k4 k5 k6 bcb c1 c2 hlvloopK
      refine z_sub ks hlvloopK ?_
      refine z_iload_n X 0 rfl rfl dX4_bare_23 ?_
      refine z_iload_n X 1 rfl rfl dX4_bare_24 ?_
      refine z_icmp_gt X (tgt := 109) (by omega) (by omega) dX4_bare_25 (by decide) (fun hb25 => absurd hb25 (by omega)) (fun hb25 => ?_)
      refine z_aload_n X 2 rfl rfl dX4_bare_28 ?_
      refine z_get X zinX4 0 (by omega) gM_O (ci := 6) rfl 20 (by decide) (ref := "TowerFieldsModel") zw691 rfl rfl dX4_bare_29 ?_
      refine z_aload_n X 2 rfl rfl dX4_bare_32 ?_
      refine z_get X zinX4 0 (by omega) gM_O (ci := 6) rfl 7 (by decide) (ref := "TowerFieldsModel") zw678 rfl rfl dX4_bare_33 ?_
      refine z_callSv X zm_X4_copy zw806 zw805 (zFit_of (by decide) (by decide)) [.ref (ad (17)), .ref (ad (5))] (q_copy HU HA l N1 (x := 17) (y := 5) (by decide) (by decide) (by omega)) rfl rfl (Nat.le_of_ble_eq_true rfl) dX4_bare_36 (fun S14 O14 => ?_)
      obtain ⟨F14, eF14⟩ : ∃ Fz, Fz = va_up Fb 17 (Fb 5) := ⟨_, rfl⟩
      rw [← eF14] at O14
      have v14_17 : F14 17 = F 5 := by rw [eF14, va_up_self, k5]
      have v14_3 : F14 3 = F 3 := (congrFun eF14 3).trans ((va_up_ne _ _ (by omega)).trans k3)
      have v14_4 : F14 4 = F 4 := (congrFun eF14 4).trans ((va_up_ne _ _ (by omega)).trans k4)
      have v14_5 : F14 5 = F 5 := (congrFun eF14 5).trans ((va_up_ne _ _ (by omega)).trans k5)
      have v14_6 : F14 6 = mp_C ca cb := (congrFun eF14 6).trans ((va_up_ne _ _ (by omega)).trans k6)
      clear eF14
      refine z_aload_n X 2 rfl rfl dX4_bare_39 ?_
      refine z_get X zinX4 0 (by omega) gM_O (ci := 6) rfl 7 (by decide) (ref := "TowerFieldsModel") zw678 rfl rfl dX4_bare_40 ?_
      refine z_callSv X zm_X4_clear zw748 zw747 (zFit_of (by decide) (by decide)) [.ref (ad (5))] (q_clear HU HA l O14 (x := 5) (by decide)) rfl rfl (Nat.le_of_ble_eq_true rfl) dX4_bare_43 (fun S15 O15 => ?_)
      obtain ⟨F15, eF15⟩ : ∃ Fz, Fz = va_up F14 5 (0) := ⟨_, rfl⟩
      rw [← eF15] at O15
      have v15_5 : F15 5 = 0 := by rw [eF15, va_up_self]
      have v15_3 : F15 3 = F 3 := (congrFun eF15 3).trans ((va_up_ne _ _ (by omega)).trans v14_3)
      have v15_4 : F15 4 = F 4 := (congrFun eF15 4).trans ((va_up_ne _ _ (by omega)).trans v14_4)
      have v15_6 : F15 6 = mp_C ca cb := (congrFun eF15 6).trans ((va_up_ne _ _ (by omega)).trans v14_6)
      have v15_17 : F15 17 = F 5 := (congrFun eF15 17).trans ((va_up_ne _ _ (by omega)).trans v14_17)
      clear eF15
      refine z_iconst X (n := 0) dX4_bare_46 ?_
      refine z_istore_n X [(3, .int (iZ (0))), (2, .int (iZ (k))), (1, .int (iZ ((mp_sz ca (F 5) : Int) - 1))), (0, .ref (ad 0))] rfl rfl (by decide) dX4_bare_47 ?_
      rw [← fa_self S15 5]
      have loopI : ∀ (kloopI : Nat) (i : Int) (fr : Nat → FP) (lv : List (Nat × Value)) (ks : List Nat), i + kloopI = 40 → 0 ≤ i → (∀ j : Nat, j < 880 → fr j = if (j : Int) < i then S15.1 17 (40 * k.toNat + j) else S15.1 5 j) → lv_pick lv ks = [(3, .int (iZ (i))), (2, .int (iZ (k))), (1, .int (iZ ((mp_sz ca (F 5) : Int) - 1))), (0, .ref (ad 0))] → Z p l e (zRm 4) s m args below meth c 4 D 18 ad A 0 0 Q 48 lv [] (gM ad cI (fa S15 5 fr)) := by
        intro kloopI
        induction kloopI with
        | zero =>
          intro i fr lv ks e1loopI e2loopI f3 hlvloopI
          refine z_sub ks hlvloopI ?_
          refine z_iload_n X 0 rfl rfl dX4_bare_48 ?_
          refine z_bipush X (n := 40) (by decide) dX4_bare_49 ?_
          refine z_icmp_ge X (tgt := 77) (by omega) (by omega) dX4_bare_51 (by decide) (fun hb51 => ?_) (fun hb51 => absurd hb51 (by omega))
          have O16 := zO_fa HU HA O15 (x := 5) (by decide) fr (a := mp_C ca (ca (F 5) k.toNat)) (zbb_le (hrow _) (by omega) (by omega)) (fun j hj => by
            rw [f3 j hj, mk_C HU HA]
            by_cases e : (j : Int) < i
            · rw [if_pos e, zO_at O15 (x := 17) (by decide) _ (by omega), v15_17, mk_cf' HU HA (Nat.le_trans b5.2 (by omega)), show (40 * k.toNat + j) / 40 = k.toNat by omega, show (40 * k.toNat + j) % 40 = j by omega]
            · rw [if_neg e, zO_at O15 (x := 5) (by decide) _ hj, v15_5, mk_0 HU HA, mp_zero HU, mp_sz_out HU (Nat.le_trans (mp_xz_row HU HA _ _) (Nat.le_trans b5.2 (by omega)))])
          obtain ⟨S16, eS16⟩ : ∃ Sz, Sz = fa S15 5 fr := ⟨_, rfl⟩
          rw [← eS16] at O16 ⊢
          obtain ⟨F16, eF16⟩ : ∃ Fz, Fz = va_up F15 5 (mp_C ca (ca (F 5) k.toNat)) := ⟨_, rfl⟩
          rw [← eF16] at O16
          have v16_5 : F16 5 = mp_C ca (ca (F 5) k.toNat) := by rw [eF16, va_up_self]
          have v16_3 : F16 3 = F 3 := (congrFun eF16 3).trans ((va_up_ne _ _ (by omega)).trans v15_3)
          have v16_4 : F16 4 = F 4 := (congrFun eF16 4).trans ((va_up_ne _ _ (by omega)).trans v15_4)
          have v16_6 : F16 6 = mp_C ca cb := (congrFun eF16 6).trans ((va_up_ne _ _ (by omega)).trans v15_6)
          have v16_17 : F16 17 = F 5 := (congrFun eF16 17).trans ((va_up_ne _ _ (by omega)).trans v15_17)
          clear eF16
          refine z_aload_n X 3 rfl rfl dX4_bare_77 ?_
          refine z_callVv X zm_X4_shared zw878 zp44 zw876 (zFit_of (by decide) (by decide)) [] (q_shared HU HA l O16 (by rw [v16_5]; exact hrow _) (by rw [v16_6]; exact bcb)) rfl rfl (Nat.le_of_ble_eq_true rfl) (by omega) gM_O (q := vwCl[6]) rfl rfl dX4_bare_78 (fun S17 O17 => ?_)
          obtain ⟨F17, O17, hgc, k5_17, k6_17, k17_17, k3_17, k4_17⟩ := O17
          rw [v16_5, v16_6] at hgc
          obtain ⟨cd9, hcd, hcd1, hcd2, hcd3⟩ := mGcd_low HU HA hgc
          have bdd := mGcd_b HU HA hgc (s := 6) (x := 6) (hrow _) bcb
          rw [hcd] at bdd
          have v17_3 : F17 3 = F 3 := k3_17.trans v16_3
          have v17_4 : F17 4 = F 4 := k4_17.trans v16_4
          have v17_17 : F17 17 = F 5 := k17_17.trans v16_17
          refine z_aload_n X 3 rfl rfl dX4_bare_81 ?_
          refine z_get X zinX4 0 (by omega) gM_O (ci := 6) rfl 8 (by decide) (ref := "TowerFieldsModel") zw679 rfl rfl dX4_bare_82 ?_
          refine z_aload_n X 3 rfl rfl dX4_bare_85 ?_
          refine z_get X zinX4 0 (by omega) gM_O (ci := 6) rfl 10 (by decide) (ref := "TowerFieldsModel") zw681 rfl rfl dX4_bare_86 ?_
          refine z_callSv X zm_X4_copy zw806 zw805 (zFit_of (by decide) (by decide)) [.ref (ad (6)), .ref (ad (8))] (q_copy HU HA l O17 (x := 6) (y := 8) (by decide) (by decide) (by omega)) rfl rfl (Nat.le_of_ble_eq_true rfl) dX4_bare_89 (fun S18 O18 => ?_)
          obtain ⟨F18, eF18⟩ : ∃ Fz, Fz = va_up F17 6 (F17 8) := ⟨_, rfl⟩
          rw [← eF18] at O18
          have v18_6 : F18 6 = mp_C ca cd9 := by rw [eF18, va_up_self, hcd]
          have v18_3 : F18 3 = F 3 := (congrFun eF18 3).trans ((va_up_ne _ _ (by omega)).trans v17_3)
          have v18_4 : F18 4 = F 4 := (congrFun eF18 4).trans ((va_up_ne _ _ (by omega)).trans v17_4)
          have v18_17 : F18 17 = F 5 := (congrFun eF18 17).trans ((va_up_ne _ _ (by omega)).trans v17_17)
          have v18_8 : F18 8 = mp_C ca cd9 := (congrFun eF18 8).trans ((va_up_ne _ _ (by omega)).trans hcd)
          clear eF18
          refine z_aload_n X 3 rfl rfl dX4_bare_92 ?_
          refine z_get X zinX4 0 (by omega) gM_O (ci := 6) rfl 7 (by decide) (ref := "TowerFieldsModel") zw678 rfl rfl dX4_bare_93 ?_
          refine z_aload_n X 3 rfl rfl dX4_bare_96 ?_
          refine z_get X zinX4 0 (by omega) gM_O (ci := 6) rfl 20 (by decide) (ref := "TowerFieldsModel") zw691 rfl rfl dX4_bare_97 ?_
          refine z_callSv X zm_X4_copy zw806 zw805 (zFit_of (by decide) (by decide)) [.ref (ad (5)), .ref (ad (17))] (q_copy HU HA l O18 (x := 5) (y := 17) (by decide) (by decide) (by omega)) rfl rfl (Nat.le_of_ble_eq_true rfl) dX4_bare_100 (fun S19 O19 => ?_)
          obtain ⟨F19, eF19⟩ : ∃ Fz, Fz = va_up F18 5 (F18 17) := ⟨_, rfl⟩
          rw [← eF19] at O19
          have v19_5 : F19 5 = F 5 := by rw [eF19, va_up_self, v18_17]
          have v19_3 : F19 3 = F 3 := (congrFun eF19 3).trans ((va_up_ne _ _ (by omega)).trans v18_3)
          have v19_4 : F19 4 = F 4 := (congrFun eF19 4).trans ((va_up_ne _ _ (by omega)).trans v18_4)
          have v19_17 : F19 17 = F 5 := (congrFun eF19 17).trans ((va_up_ne _ _ (by omega)).trans v18_17)
          have v19_8 : F19 8 = mp_C ca cd9 := (congrFun eF19 8).trans ((va_up_ne _ _ (by omega)).trans v18_8)
          have v19_6 : F19 6 = mp_C ca cd9 := (congrFun eF19 6).trans ((va_up_ne _ _ (by omega)).trans v18_6)
          clear eF19
          refine z_iinc X [(2, .int (iZ (k + 1))), (3, .int (iZ (i))), (1, .int (iZ ((mp_sz ca (F 5) : Int) - 1))), (0, .ref (ad 0))] 1 rfl rfl (by decide) dX4_bare_103 ?_
          refine z_goto X (tgt := 23) dX4_bare_106 (by decide) ?_
          refine ihloopK (k + 1) S19 F19 cd9 _ [0, 2, 3] (by omega) (by omega) O19 v19_3 v19_4 v19_5 v19_6 bdd (fun q hq => ?_) (fun hq => ?_) rfl
          · by_cases e : q = k.toNat
            · rw [e]; exact hcd1
            · exact mp_D_tr hcd2 (c1 q (by omega))
          · obtain ⟨q, hq1, hq2⟩ := hq
            refine hcd3 ?_
            by_cases e : q = k.toNat
            · rw [e] at hq2; exact Or.inl hq2
            · exact Or.inr (c2 ⟨q, by omega, hq2⟩)
        | succ kloopI ihloopI =>
          intro i fr lv ks e1loopI e2loopI f3 hlvloopI
          refine z_sub ks hlvloopI ?_
          refine z_iload_n X 0 rfl rfl dX4_bare_48 ?_
          refine z_bipush X (n := 40) (by decide) dX4_bare_49 ?_
          refine z_icmp_ge X (tgt := 77) (by omega) (by omega) dX4_bare_51 (by decide) (fun hb51 => absurd hb51 (by omega)) (fun hb51 => ?_)
          refine z_aload_n X 3 rfl rfl dX4_bare_54 ?_
          refine z_get X zinX4 0 (by omega) gM_O (ci := 6) rfl 7 (by decide) (ref := "TowerFieldsModel") zw678 rfl rfl dX4_bare_55 ?_
          refine z_iload_n X 0 rfl rfl dX4_bare_58 ?_
          refine z_aload_n X 3 rfl rfl dX4_bare_59 ?_
          refine z_get X zinX4 0 (by omega) gM_O (ci := 6) rfl 20 (by decide) (ref := "TowerFieldsModel") zw691 rfl rfl dX4_bare_60 ?_
          refine z_bipush X (n := 40) (by decide) dX4_bare_63 ?_
          refine z_iload_n X 1 rfl rfl dX4_bare_65 ?_
          refine z_imul X dX4_bare_66 ?_
          refine z_iload_n X 0 rfl rfl dX4_bare_67 ?_
          refine z_iadd X dX4_bare_68 ?_
          refine zn_ld X (by decide) 880 rfl (by omega) (by omega) (S15.1 17 ((40 * k) + i).toNat) (by rw [fa_ne _ _ (by omega)]) dX4_bare_69 ?_
          refine zn_st X (by decide) 880 rfl (by omega) (by omega) (S15.1 17 ((40 * k) + i).toNat) rfl (fa S15 5 ((va_up fr (i).toNat (S15.1 17 ((40 * k) + i).toNat)))) (fa_st _ _ _ _ _) dX4_bare_70 ?_
          refine z_iinc X [(3, .int (iZ (i + 1))), (2, .int (iZ (k))), (1, .int (iZ ((mp_sz ca (F 5) : Int) - 1))), (0, .ref (ad 0))] 0 rfl rfl (by decide) dX4_bare_71 ?_
          refine z_goto X (tgt := 48) dX4_bare_74 (by decide) ?_
          refine ihloopI (i + 1) _ _ [0, 1, 2, 3] (by omega) (by omega) (fun j hj => ?_) rfl
          by_cases e : j = i.toNat
          · rw [e, va_up_self, if_pos (by omega)]
            exact congrArg (S15.1 17) (by omega)
          · rw [va_up_ne _ _ e, f3 j hj]
            by_cases e2 : (j : Int) < i
            · rw [if_pos e2, if_pos (by omega)]
            · rw [if_neg e2, if_neg (by omega)]
      exact loopI 40 (0) (S15.1 5) _ [0, 1, 2, 3] (by omega) (by omega) (fun j hj => by rw [if_neg (by omega)]) rfl
  exact loopK ((mp_sz ca (F 5))) (0) S1 F1 0 _ [0, 1, 2] (by omega) (by omega) O1 v1_3 v1_4 v1_5 (by rw [v1_6, mp_C_0 HA]) (by rw [mp_C_0 HA]; exact zbb_le (zbb_0 HU HA) (by omega) (by omega)) (fun q hq => by omega) (fun ⟨q, hq, _⟩ => by omega) rfl
