set_option maxHeartbeats 8000000 in
set_option maxRecDepth 100000 in
theorem c_X3_low {U V : Type} [Lean.Grind.CommRing U] [Lean.Grind.CommRing V] {cu : U → Nat → FP} {ca : V → Nat → U} (HU : mp_P cu) (HA : mp_P ca) (l : Launch) (hl9 : l.stackTraces = false) {D : va_G} {ad sa : Nat → Nat} {cI cO : ClassId} {EL : Int → V × V} {md kd : Int} {sA sB : U} {S : zS} (hC : zC cu ca EL md kd sA sB S) {n : Int} (hn : -2147483648 ≤ n ∧ n < 2147483648) : zTi l yX3_low cX3_low 4 (some .boolean) 8 1 D (zTy cI cO) 419 ad sa [.ref (ad 0), .int (iZ n)] (gC ad cI cO S) (gC ad cI cO) (fun (z : Int) (u : zS) => (0 ≤ n ∧ n < md) ∧ z = @ite Int (mp_sz ca (EL n).1 ≤ 1 ∧ mp_sz ca (EL n).2 ≤ 1) (Classical.propDecidable _) 1 0 ∧ zC cu ca EL md kd sA sB u) (fun (E : String) (u : zS) => zC cu ca EL md kd sA sB u ∧ E = "java/lang/IndexOutOfBoundsException" ∧ ¬ (0 ≤ n ∧ n < md)) := by
  obtain ⟨P, T, hR, hEL, hmd, hkd, h182, h183, hone, hnf, hsA, hsB, hkb⟩ := hC
  have hrec := And.intro hEL (And.intro hmd (And.intro hkd (And.intro h182 (And.intro h183 (And.intro hone (And.intro hnf (And.intro hsA (And.intro hsB hkb))))))))
  have hC0 : zC cu ca EL md kd sA sB S := ⟨P, T, hR, hEL, hmd, hkd, h182, h183, hone, hnf, hsA, hsB, hkb⟩
  have hm0 := hEL.1
  have hm1 := hEL.2.1
  have hS1 : S.2.2.2.2.1 = T.2.1 := by rw [hR.2.2.2.2.2]
  have hS2 : S.2.2.2.2.2 = T.2.2 := by rw [hR.2.2.2.2.2]
  refine z_gotz zm_X3_low (Nat.le_of_ble_eq_true rfl) [(0, .ref (ad 0)), (1, .int (iZ (n)))] rfl (fun p e s m args below meth c A X XX ht E => ?_)
  obtain ⟨Q, hQ⟩ : ∃ Q : State → Prop, Q = vx_MQ below (zQi D 419 ad (gC ad cI cO) (fun (z : Int) (u : zS) => (0 ≤ n ∧ n < md) ∧ z = @ite Int (mp_sz ca (EL n).1 ≤ 1 ∧ mp_sz ca (EL n).2 ≤ 1) (Classical.propDecidable _) 1 0 ∧ zC cu ca EL md kd sA sB u) A) (zXQ D 419 ad (gC ad cI cO) (fun (E : String) (u : zS) => zC cu ca EL md kd sA sB u ∧ E = "java/lang/IndexOutOfBoundsException" ∧ ¬ (0 ≤ n ∧ n < md)) A) args s 1 (6 * 1) A := ⟨_, rfl⟩
  refine z_aload_n X 0 rfl rfl dX3_low_0 ?_
  refine z_iload_n X 1 rfl rfl dX3_low_1 ?_
  refine z_callVvT X XX ht zm_X3_requireElement zw344 zp5 zw342 (zFitX_of (by decide) (by decide) (by decide) (by decide)) [.int (iZ (n))] (c_X3_requireElement l hl9 S hn hS1 ⟨hm0, hm1⟩) rfl rfl (Nat.le_of_ble_eq_true rfl) (by omega) gC_T (q := vwCl[5]) rfl rfl dX3_low_2 (fun E _ h => ⟨S, ⟨hC0, h.1, fun q => h.2 ⟨q.1, by omega⟩⟩, rfl⟩) (by decide) (by decide) (fun u hh => ?_)
  refine z_iconst X (n := 1) dX3_low_5 ?_
  refine z_istore_n X [(2, .int (iZ (1))), (0, .ref (ad 0)), (1, .int (iZ (n)))] rfl rfl (by decide) dX3_low_6 ?_
  obtain ⟨hBa, hBb⟩ := hEL.2.2 n hh.1 hh.2
  have e1 : 0 ≤ n ∧ n < md := ⟨hh.1, by have := hh.2; omega⟩
  rw [← hQ] at E ⊢
  have loop : ∀ (k : Nat) (i : Int) (lv : List (Nat × Value)) (ks : List Nat), i + k = 7 → 1 ≤ i → (∀ i1 j1 : Nat, 1 ≤ i1 → ((i1 : Int) < i) → j1 < 7 → cu (ca (EL n).1 i1) j1 = 0 ∧ cu (ca (EL n).2 i1) j1 = 0) → lv_pick lv ks = [(2, .int (iZ (i))), (0, .ref (ad 0)), (1, .int (iZ (n)))] → Z p l e (zRx 8 1) s m args below meth c 4 D 419 ad A (0 + 1) (0 + 6 * 1) Q 7 lv [] (gC ad cI cO S) := by
    intro k
    induction k with
    | zero =>
      intro i lv ks h1 h2 h3 hlv
      refine z_sub ks hlv ?_
      refine z_iload_n X 0 rfl rfl dX3_low_7 ?_
      refine z_bipush X (n := 7) (by decide) dX3_low_8 ?_
      refine z_icmp_ge X (tgt := 63) (by omega) (by omega) dX3_low_10 (by decide) (fun hb10 => ?_) (fun hb10 => absurd hb10 (by omega))
      refine z_iconst X (n := 1) dX3_low_63 ?_
      have key : ∀ (x : V), mp_sz ca x ≤ 7 → mp_xz cu ca x ≤ 7 → (∀ i1 j1 : Nat, 1 ≤ i1 → i1 < 7 → j1 < 7 → cu (ca x i1) j1 = 0) → mp_sz ca x ≤ 1 := fun x q1 q2 q3 => mp_sz_le HA (fun r hr => mp_ext HU (fun j => by
        rw [mp_zero HU]
        by_cases hr7 : r < 7
        · by_cases hj7 : j < 7
          · exact q3 r j hr hr7 hj7
          · exact mp_sz_out HU (Nat.le_trans (mp_xz_row HU HA x r) (by omega))
        · rw [mp_sz_out HA (a := x) (by omega), mp_zero HU]))
      exact E S (by decide) (by decide) (by omega) ⟨e1, by rw [if_pos ⟨key _ hBa.2.1 hBa.2.2 (fun i1 j1 a1 a2 a3 => (h3 i1 j1 a1 (by omega) a3).1), key _ hBb.2.1 hBb.2.2 (fun i1 j1 a1 a2 a3 => (h3 i1 j1 a1 (by omega) a3).2)⟩], hC0⟩ rfl dX3_low_64
    | succ k ih =>
      intro i lv ks h1 h2 h3 hlv
      refine z_sub ks hlv ?_
      refine z_iload_n X 0 rfl rfl dX3_low_7 ?_
      refine z_bipush X (n := 7) (by decide) dX3_low_8 ?_
      refine z_icmp_ge X (tgt := 63) (by omega) (by omega) dX3_low_10 (by decide) (fun hb10 => absurd hb10 (by omega)) (fun hb10 => ?_)
      refine z_iconst X (n := 0) dX3_low_13 ?_
      refine z_istore_n X [(3, .int (iZ (0))), (2, .int (iZ (i))), (0, .ref (ad 0)), (1, .int (iZ (n)))] rfl rfl (by decide) dX3_low_14 ?_
      have inner : ∀ (k2 : Nat) (j : Int) (lv : List (Nat × Value)) (ks : List Nat), j + k2 = 7 → 0 ≤ j → (∀ i1 j1 : Nat, 1 ≤ i1 → ((i1 : Int) < i ∨ ((i1 : Int) = i ∧ (j1 : Int) < j)) → j1 < 7 → cu (ca (EL n).1 i1) j1 = 0 ∧ cu (ca (EL n).2 i1) j1 = 0) → lv_pick lv ks = [(3, .int (iZ (j))), (2, .int (iZ (i))), (0, .ref (ad 0)), (1, .int (iZ (n)))] → Z p l e (zRx 8 1) s m args below meth c 4 D 419 ad A (0 + 1) (0 + 6 * 1) Q 15 lv [] (gC ad cI cO S) := by
        intro k2
        induction k2 with
        | zero =>
          intro j lv ks g1 g2 g3 hlv2
          refine z_sub ks hlv2 ?_
          refine z_iload_n X 0 rfl rfl dX3_low_15 ?_
          refine z_bipush X (n := 7) (by decide) dX3_low_16 ?_
          refine z_icmp_ge X (tgt := 57) (by omega) (by omega) dX3_low_18 (by decide) (fun hb18 => ?_) (fun hb18 => absurd hb18 (by omega))
          refine z_iinc X [(2, .int (iZ (i + 1))), (3, .int (iZ (j))), (0, .ref (ad 0)), (1, .int (iZ (n)))] 1 rfl rfl (by decide) dX3_low_57 ?_
          refine z_goto X (tgt := 7) dX3_low_60 (by decide) ?_
          exact ih (i + 1) _ [0, 2, 3] (by omega) (by omega) (fun i1 j1 a1 a2 a3 => g3 i1 j1 a1 (by omega) a3) rfl
        | succ k2 ih2 =>
          intro j lv ks g1 g2 g3 hlv2
          refine z_sub ks hlv2 ?_
          refine z_iload_n X 0 rfl rfl dX3_low_15 ?_
          refine z_bipush X (n := 7) (by decide) dX3_low_16 ?_
          refine z_icmp_ge X (tgt := 57) (by omega) (by omega) dX3_low_18 (by decide) (fun hb18 => absurd hb18 (by omega)) (fun hb18 => ?_)
          refine z_aload_n X 2 rfl rfl dX3_low_21 ?_
          refine z_iload_n X 3 rfl rfl dX3_low_22 ?_
          refine z_iconst X (n := 0) dX3_low_23 ?_
          refine z_iload_n X 1 rfl rfl dX3_low_24 ?_
          refine z_iload_n X 0 rfl rfl dX3_low_25 ?_
          refine z_callSi X zm_X3_place zw298 zw297 (zFitN_of (by decide) (by decide) (by decide) (by decide)) [.int (iZ (n)), .int (iZ (0)), .int (iZ (i)), .int (iZ (j))] (c_X3_place l (gC ad cI cO S) n 0 i j) rfl rfl (Nat.le_of_ble_eq_true rfl) dX3_low_26 (fun z _ hz => ?_)
          subst hz
          refine z_callVi X zm_X3_stored zw390 zp9 zw388 (zFitN_of (by decide) (by decide) (by decide) (by decide)) [.int (iZ (98 * n + 49 * 0 + 7 * i + j))] (c_X3_stored l S (z := 98 * n + 49 * 0 + 7 * i + j) (by omega) (by omega)) rfl rfl (Nat.le_of_ble_eq_true rfl) (by omega) gC_T (q := vwCl[5]) rfl rfl dX3_low_29 (fun z _ hza => ?_)
          rw [hR.2.2.2.2.2, show (98 * n + 49 * 0 + 7 * i + j).toNat = (98 * n + 49 * 0).toNat + 7 * i.toNat + j.toNat by omega, hBa.1 _ _ (by omega) (by omega)] at hza
          subst hza
          have ahza := vz_nn (cu (ca (EL n).1 i.toNat) j.toNat)
          have bhza := vz_lt (cu (ca (EL n).1 i.toNat) j.toNat)
          refine z_if_ne X (tgt := 49) (by omega) dX3_low_32 (by decide) (fun hb32 => ?_) (fun hb32 => ?_)
          · refine z_iconst X (n := 0) dX3_low_49 ?_
            have hne : ¬ (mp_sz ca (EL n).1 ≤ 1 ∧ mp_sz ca (EL n).2 ≤ 1) := fun q => hb32 (by rw [mp_sz_out HA (a := (EL n).1) (n := i.toNat) (by have := q.1; omega), mp_zero HU]; rfl)
            exact E S (by decide) (by decide) (by omega) ⟨e1, by rw [if_neg hne], hC0⟩ rfl dX3_low_50
          · refine z_aload_n X 2 rfl rfl dX3_low_35 ?_
            refine z_iload_n X 3 rfl rfl dX3_low_36 ?_
            refine z_iconst X (n := 1) dX3_low_37 ?_
            refine z_iload_n X 1 rfl rfl dX3_low_38 ?_
            refine z_iload_n X 0 rfl rfl dX3_low_39 ?_
            refine z_callSi X zm_X3_place zw298 zw297 (zFitN_of (by decide) (by decide) (by decide) (by decide)) [.int (iZ (n)), .int (iZ (1)), .int (iZ (i)), .int (iZ (j))] (c_X3_place l (gC ad cI cO S) n 1 i j) rfl rfl (Nat.le_of_ble_eq_true rfl) dX3_low_40 (fun z _ hz => ?_)
            subst hz
            refine z_callVi X zm_X3_stored zw390 zp9 zw388 (zFitN_of (by decide) (by decide) (by decide) (by decide)) [.int (iZ (98 * n + 49 * 1 + 7 * i + j))] (c_X3_stored l S (z := 98 * n + 49 * 1 + 7 * i + j) (by omega) (by omega)) rfl rfl (Nat.le_of_ble_eq_true rfl) (by omega) gC_T (q := vwCl[5]) rfl rfl dX3_low_43 (fun z _ hzb => ?_)
            rw [hR.2.2.2.2.2, show (98 * n + 49 * 1 + 7 * i + j).toNat = (98 * n + 49 * 1).toNat + 7 * i.toNat + j.toNat by omega, hBb.1 _ _ (by omega) (by omega)] at hzb
            subst hzb
            have ahzb := vz_nn (cu (ca (EL n).2 i.toNat) j.toNat)
            have bhzb := vz_lt (cu (ca (EL n).2 i.toNat) j.toNat)
            refine z_if_eq X (tgt := 51) (by omega) dX3_low_46 (by decide) (fun hb46 => ?_) (fun hb46 => ?_)
            · refine z_iinc X [(3, .int (iZ (j + 1))), (2, .int (iZ (i))), (0, .ref (ad 0)), (1, .int (iZ (n)))] 0 rfl rfl (by decide) dX3_low_51 ?_
              refine z_goto X (tgt := 15) dX3_low_54 (by decide) ?_
              refine ih2 (j + 1) _ [0, 1, 2, 3] (by omega) (by omega) (fun i1 j1 a1 a2 a3 => ?_) rfl
              by_cases e3 : i1 = i.toNat ∧ j1 = j.toNat
              · rw [e3.1, e3.2]; exact ⟨vz_z.mp (by omega), vz_z.mp (by omega)⟩
              · exact g3 i1 j1 a1 (by omega) a3
            · refine z_iconst X (n := 0) dX3_low_49 ?_
              have hne : ¬ (mp_sz ca (EL n).1 ≤ 1 ∧ mp_sz ca (EL n).2 ≤ 1) := fun q => hb46 (by rw [mp_sz_out HA (a := (EL n).2) (n := i.toNat) (by have := q.2; omega), mp_zero HU]; rfl)
              exact E S (by decide) (by decide) (by omega) ⟨e1, by rw [if_neg hne], hC0⟩ rfl dX3_low_50
      exact inner 7 0 _ [0, 1, 2, 3] (by omega) (by omega) (fun i1 j1 a1 a2 a3 => h3 i1 j1 a1 (by omega) a3) rfl
  exact loop 6 1 _ [0, 1, 2] (by omega) (by omega) (fun i1 j1 a1 a2 a3 => absurd a2 (by omega)) rfl
