/-! what the loops make -/
theorem vz_ofn {i : Int} (h0 : 0 ≤ i) (h1 : i < 32003) : vz (mf_n i.toNat) = i := by rw [vz_n h0]; omega
theorem vz_mi {x : FP} {i : Int} (h0 : 0 ≤ i) (h1 : i < 32003) : (vz x * i) % 32003 = vz (x * mf_n i.toNat) := by
  have h := vz_m x (mf_n i.toNat)
  rw [vz_ofn h0 h1] at h
  exact h
theorem vz_neg {x : FP} (h : x ≠ 0) : 32003 - vz x = vz (-x) := by
  have h1 : vz x ≠ 0 := fun q => h (vz_z.mp q)
  have h2 := vz_nn x
  have h3 := vz_lt x
  have h4 : mf_n (32003 - vz x).toNat = -x := by
    have e1 : mf_n ((32003 - vz x) + vz x).toNat = mf_n (32003 - vz x).toNat + mf_n (vz x).toNat := mf_tn_add (by omega) h2
    rw [mf_vz, show 32003 - vz x + vz x = 32003 by omega, show mf_n (32003 : Int).toNat = 0 by decide] at e1
    grind
  rw [← h4, vz_ofn (by omega) (by omega)]
theorem vz_subm (x w y : FP) : (vz x + (32003 - vz w) * vz y) % 32003 = vz (x - w * y) := by
  by_cases h : w = 0
  · rw [h, show (32003 - vz 0) * vz y = 32003 * vz y by rw [vz_0]; rfl, show x - 0 * y = x by grind]
    have := vz_nn x
    have := vz_lt x
    omega
  · rw [vz_neg h, vz_am]
    congr 1
    grind
theorem vz_subm_nn (w y : FP) : 0 ≤ (32003 - vz w) * vz y := Int.mul_nonneg (by have := vz_lt w; omega) (vz_nn y)
theorem vz_subm_le (w y : FP) : (32003 - vz w) * vz y ≤ 1024160006 := by
  have h1 : (32003 - vz w) * vz y ≤ 32003 * vz y := Int.mul_le_mul_of_nonneg_right (by have := vz_nn w; omega) (vz_nn y)
  have := vz_lt y
  omega
section
variable {U : Type}
noncomputable def pq_tl [Lean.Grind.CommRing U] (cu : U → Nat → FP) (q : U) (k : Nat) : U := mp_mk cu (fun n => cu q (n + k))
theorem pq_tl_cf [Lean.Grind.CommRing U] {cu : U → Nat → FP} (HU : mp_P cu) (q : U) (k n : Nat) : cu (pq_tl cu q k) n = cu q (n + k) := by
  obtain ⟨N, hN⟩ := HU.2.2.2.1 q
  exact mp_mk_cf HU N (fun n hn => hN _ (by omega)) n
theorem pq_tl_e [Lean.Grind.CommRing U] {cu : U → Nat → FP} (HU : mp_P cu) (w : FP) (q : U) (k : Nat) : mp_e cu w (pq_tl cu q k) = mp_e cu w (pq_tl cu q (k + 1)) * w + cu q k := by
  rw [mp_e_horner HU (mp_Fd_nz mp_FP) w (k := 0) (a := pq_tl cu q k) (b := pq_tl cu q (k + 1)) (fun n => by rw [pq_tl_cf HU, pq_tl_cf HU, show n + (k + 1) = n + 1 + k by omega]), pq_tl_cf HU, Nat.zero_add]
theorem pq_tl_0 [Lean.Grind.CommRing U] {cu : U → Nat → FP} (HU : mp_P cu) (q : U) : pq_tl cu q 0 = q := mp_ext HU (fun n => by rw [pq_tl_cf HU, Nat.add_zero])
theorem pq_tl_z [Lean.Grind.CommRing U] {cu : U → Nat → FP} (HU : mp_P cu) {q : U} {k : Nat} (h : mp_sz cu q ≤ k) : pq_tl cu q k = 0 := mp_ext HU (fun n => by rw [pq_tl_cf HU, mp_zero HU]; exact mp_sz_out HU (by omega))
/-- the part below k -/
noncomputable def pq_lo [Lean.Grind.CommRing U] (cu : U → Nat → FP) (q : U) (k : Nat) : U := mp_mk cu (fun n => if n < k then cu q n else 0)
theorem pq_lo_cf [Lean.Grind.CommRing U] {cu : U → Nat → FP} (HU : mp_P cu) (q : U) (k n : Nat) : cu (pq_lo cu q k) n = if n < k then cu q n else 0 := mp_mk_cf HU k (fun n hn => if_neg (by omega)) n
theorem pq_lo_s [Lean.Grind.CommRing U] {cu : U → Nat → FP} (HU : mp_P cu) (q : U) (k : Nat) : pq_lo cu q (k + 1) = pq_lo cu q k + mp_m cu (cu q k) k := mp_ext HU (fun n => by
  rw [mp_add HU, pq_lo_cf HU, pq_lo_cf HU, mp_m_cf HU]
  by_cases h : n = k
  · rw [h, if_pos (by omega), if_neg (by omega), if_pos rfl]; grind
  · rw [if_neg h]
    by_cases h2 : n < k
    · rw [if_pos h2, if_pos (by omega)]; grind
    · rw [if_neg h2, if_neg (by omega)]; grind)
theorem pq_lo_0 [Lean.Grind.CommRing U] {cu : U → Nat → FP} (HU : mp_P cu) (q : U) : pq_lo cu q 0 = 0 := mp_ext HU (fun n => by rw [pq_lo_cf HU, if_neg (by omega), mp_zero HU])
theorem pq_lo_z [Lean.Grind.CommRing U] {cu : U → Nat → FP} (HU : mp_P cu) {q : U} {k : Nat} (h : mp_sz cu q ≤ k) : pq_lo cu q k = q := mp_ext HU (fun n => by
  rw [pq_lo_cf HU]
  split
  · rfl
  · rw [mp_sz_out HU (by omega)])
theorem va_uu {α : Type} (f : Nat → α) (k : Nat) (v w : α) : va_up (va_up f k v) k w = va_up f k w := bx_uu f k v w
theorem va_us {α : Type} (f : Nat → α) (k : Nat) : va_up f k (f k) = f := by
  funext j
  by_cases h : j = k
  · rw [h, va_up_self]
  · rw [va_up_ne _ _ h]
theorem va_uc {α : Type} (f : Nat → α) {k j : Nat} (h : k ≠ j) (v w : α) : va_up (va_up f k v) j w = va_up (va_up f j w) k v := by
  funext i
  simp only [va_up]
  by_cases h1 : i = j
  · rw [if_pos h1, if_neg (by omega), if_pos h1]
  · rw [if_neg h1, if_neg h1]
theorem pq_G_step [Lean.Grind.CommRing U] {a b q r h : U} (e : a = q * b + r) (hg : mp_G b r h) : mp_G a b h := by
  refine ⟨by rw [e]; exact mp_D_add (mp_D_mul' hg.1 q) hg.2.1, hg.1, fun d h1 h2 => hg.2.2 d h2 ?_⟩
  have := mp_D_sub h1 (mp_D_mul' h2 q)
  rw [e, show q * b + r - q * b = r by grind] at this
  exact this
theorem pq_G_0 [Lean.Grind.CommRing U] (a : U) : mp_G a 0 a := ⟨mp_D_rf a, mp_D_0 a, fun _ h _ => h⟩
theorem pq_mg [Lean.Grind.CommRing U] {cu : U → Nat → FP} (HU : mp_P cu) {a b h : U} (hg : mp_G a b h) : mq_mg cu a b (mp_C cu (mf_inv (mp_lc cu h)) * h) := by
  by_cases h0 : h = 0
  · subst h0
    rw [show mp_C cu (mf_inv (mp_lc cu 0)) * 0 = (0 : U) by grind]
    exact ⟨hg, Or.inl rfl⟩
  · have hl := mp_lc_ne HU h0
    have hi := mf_inv_ne hl
    have hm := mf_mul_inv hl
    have hu : mp_C cu (mf_inv (mp_lc cu h)) * mp_C cu (mp_lc cu h) = 1 := by rw [← mp_C_mulC HU, show mf_inv (mp_lc cu h) * mp_lc cu h = 1 by grind, mp_C_1 HU]
    refine ⟨⟨?_, ?_, fun d h1 h2 => mp_D_mul' (hg.2.2 d h1 h2) _⟩, Or.inr ?_⟩
    · obtain ⟨c, hc⟩ := hg.1
      exact ⟨mp_C cu (mp_lc cu h) * c, by grind⟩
    · obtain ⟨c, hc⟩ := hg.2.1
      exact ⟨mp_C cu (mp_lc cu h) * c, by grind⟩
    · rw [(mp_lc_mul HU (mp_Fd_nz mp_FP) (mp_C_ne HU hi) h0).2, show mp_lc cu (mp_C cu (mf_inv (mp_lc cu h))) = mf_inv (mp_lc cu h) by rw [mp_lc, mp_sz_CE HU hi, mp_C_cf HU]; rfl]
      grind
end
set_option maxHeartbeats 4000000 in
set_option maxRecDepth 100000 in
/-- the value at x -/
theorem c_X1_valueAt {U : Type} [Lean.Grind.CommRing U] {cu : U → Nat → FP} (HU : mp_P cu) (l : Launch) {D : va_G} {ad : Nat → Nat} {cI cO : ClassId} {P : Nat → U} {T : zRest} {S : zS} (hR : zR cu P T S) {k : Nat} (hk : k < 194) (x : FP) : zMi l yX1_valueAt cX1_valueAt 4 (some .int) 1 D (zTy cI cO) 419 ad [.ref (ad (k + 31)), .int (iZ (vz x))] (gC ad cI cO S) (fun _ : Unit => gC ad cI cO S) (fun z _ => z = vz (mp_e cu x (P k))) := by
  have hsz := hR.2.2.2.2.1 k hk
  refine z_goi zm_X1_valueAt (Nat.le_of_ble_eq_true rfl) [(0, .ref (ad (k + 31))), (1, .int (iZ (vz x)))] rfl (fun p e s m args below meth c A Q X E => ?_)
  have loop : ∀ (n : Nat) (i : Int) (y : FP), i + 1 = n → i < 52 → y = mp_e cu x (pq_tl cu (P k) (i + 1).toNat) → Z p l e (zRm 1) s m args below meth c 4 D 419 ad A 0 0 Q 7 [(3, .int (iZ (i))), (2, .int (iZ (vz y))), (0, .ref (ad (k + 31))), (1, .int (iZ (vz x)))] [] (gC ad cI cO S) := by
    intro n
    induction n with
    | zero =>
      intro i y h1 h2 h3
      refine z_iload_n X 0 rfl rfl dX1_valueAt_7 ?_
      refine z_if_lt X (tgt := 31) (by omega) dX1_valueAt_8 (by decide) (fun h8 => ?_) (fun h8 => absurd h8 (by omega))
      refine z_iload_n X 1 rfl rfl dX1_valueAt_31 ?_
      exact E () (by rw [h3, show (i + 1).toNat = 0 by omega, pq_tl_0 HU]) rfl dX1_valueAt_32
    | succ n ih =>
      intro i y h1 h2 h3
      refine z_iload_n X 0 rfl rfl dX1_valueAt_7 ?_
      refine z_if_lt X (tgt := 31) (by omega) dX1_valueAt_8 (by decide) (fun h8 => absurd h8 (by omega)) (fun h8 => ?_)
      refine z_iload_n X 1 rfl rfl dX1_valueAt_11 ?_
      refine z_iload_n X 3 rfl rfl dX1_valueAt_12 ?_
      refine z_imul X dX1_valueAt_13 ?_
      refine z_aload_n X 2 rfl rfl dX1_valueAt_14 ?_
      refine z_iload_n X 0 rfl rfl dX1_valueAt_15 ?_
      refine z_callVi X zm_X1_get zw301 zw302 zw400 (zFit_of (by decide) (by decide)) [.int (iZ (i))] (c_X1_getn HU l hR hk (i := i) (by omega) (by omega)) rfl rfl (Nat.le_of_ble_eq_true rfl) (by omega) (gC_L (by omega)) (q := vwCl[3]) rfl rfl dX1_valueAt_16 (fun z _ hz => ?_)
      subst hz
      refine z_iadd X dX1_valueAt_19 ?_
      refine z_sipush X (n := 32003) (by decide) dX1_valueAt_20 ?_
      have m0 := @vz_mul_nn y x
      have m1 := @vz_mul_lt y x
      have m2 := vz_nn (cu (P k) i.toNat)
      have m3 := vz_lt (cu (P k) i.toNat)
      refine z_irem X (by omega) (by omega) (by omega) (by omega) dX1_valueAt_23 ?_
      refine z_eqi (vz_ma _ _ _) ?_
      refine z_istore_n X [(2, .int (iZ (vz (y * x + cu (P k) i.toNat)))), (3, .int (iZ (i))), (0, .ref (ad (k + 31))), (1, .int (iZ (vz x)))] rfl rfl (by decide) dX1_valueAt_24 ?_
      refine z_iinc X [(3, .int (iZ (i + -1))), (2, .int (iZ (vz (y * x + cu (P k) i.toNat)))), (0, .ref (ad (k + 31))), (1, .int (iZ (vz x)))] 1 rfl rfl (by decide) dX1_valueAt_25 ?_
      refine z_goto X (tgt := 7) dX1_valueAt_28 (by decide) ?_
      refine z_sub [0, 1, 2, 3] rfl (ih (i + -1) (y * x + cu (P k) i.toNat) (by omega) (by omega) ?_)
      rw [h3, show (i + -1 + 1).toNat = i.toNat by omega, pq_tl_e HU x (P k) i.toNat, show i.toNat + 1 = (i + 1).toNat by omega]
  refine z_iconst X (n := 0) dX1_valueAt_0 ?_
  refine z_istore_n X [(2, .int (iZ (0))), (0, .ref (ad (k + 31))), (1, .int (iZ (vz x)))] rfl rfl (by decide) dX1_valueAt_1 ?_
  refine z_aload_n X 1 rfl rfl dX1_valueAt_2 ?_
  refine zl_deg X (by omega) ((mp_sz cu (P k) : Int) - 1) (hR.2.2.2.1 k hk) dX1_valueAt_3 ?_
  refine z_istore_n X [(3, .int (iZ ((mp_sz cu (P k) : Int) - 1))), (2, .int (iZ (0))), (0, .ref (ad (k + 31))), (1, .int (iZ (vz x)))] rfl rfl (by decide) dX1_valueAt_6 ?_
  exact z_sub [0, 1, 2, 3] rfl (loop (mp_sz cu (P k)) _ 0 (by omega) (by omega) (by rw [pq_tl_z HU (by omega), mp_e_0 HU (mp_Fd_nz mp_FP)]))
set_option maxHeartbeats 4000000 in
set_option maxRecDepth 100000 in
theorem c_X1_scale {U : Type} [Lean.Grind.CommRing U] {cu : U → Nat → FP} (HU : mp_P cu) (l : Launch) {D : va_G} {ad : Nat → Nat} {cI cO : ClassId} {P : Nat → U} {T : zRest} {S : zS} (hR : zR cu P T S) {k : Nat} (hk : k < 194) (x : FP) : zMv l yX1_scale cX1_scale 3 1 D (zTy cI cO) 419 ad [.ref (ad (k + 31)), .int (iZ (vz x))] (gC ad cI cO S) (gC ad cI cO) (fun u => zR cu (va_up P k (mp_C cu x * P k)) T u) := by
  have hsz := hR.2.2.2.2.1 k hk
  refine z_gov zm_X1_scale (Nat.le_of_ble_eq_true rfl) [(0, .ref (ad (k + 31))), (1, .int (iZ (vz x)))] rfl (fun p e s m args below meth c A Q X E => ?_)
  have loop : ∀ (n : Nat) (i : Int) (q : U) (S1 : zS), i + 1 = n → i < 52 → zR cu (va_up P k q) T S1 → (∀ j : Nat, cu q j = if i < j then x * cu (P k) j else cu (P k) j) → Z p l e (zRm 1) s m args below meth c 3 D 419 ad A 0 0 Q 5 [(2, .int (iZ (i))), (0, .ref (ad (k + 31))), (1, .int (iZ (vz x)))] [] (gC ad cI cO S1) := by
    intro n
    induction n with
    | zero =>
      intro i q S1 h1 h2 h3 h4
      refine z_iload_n X 0 rfl rfl dX1_scale_5 ?_
      refine z_if_lt X (tgt := 31) (by omega) dX1_scale_6 (by decide) (fun h6 => ?_) (fun h6 => absurd h6 (by omega))
      exact E S1 (by
        have : q = mp_C cu x * P k := mp_ext HU (fun j => by rw [h4, mp_C_mul HU, if_pos (by omega)])
        rw [← this]
        exact h3) rfl dX1_scale_31
    | succ n ih =>
      intro i q S1 h1 h2 h3 h4
      refine z_iload_n X 0 rfl rfl dX1_scale_5 ?_
      refine z_if_lt X (tgt := 31) (by omega) dX1_scale_6 (by decide) (fun h6 => absurd h6 (by omega)) (fun h6 => ?_)
      refine z_aload_n X 1 rfl rfl dX1_scale_9 ?_
      refine z_iload_n X 0 rfl rfl dX1_scale_10 ?_
      refine z_aload_n X 1 rfl rfl dX1_scale_11 ?_
      refine z_iload_n X 0 rfl rfl dX1_scale_12 ?_
      refine z_callVi X zm_X1_get zw301 zw302 zw400 (zFit_of (by decide) (by decide)) [.int (iZ (i))] (c_X1_getn HU l h3 hk (i := i) (by omega) (by omega)) rfl rfl (Nat.le_of_ble_eq_true rfl) (by omega) (gC_L (by omega)) (q := vwCl[3]) rfl rfl dX1_scale_13 (fun z _ hz => ?_)
      rw [va_up_self] at hz
      subst hz
      have m0 := @vz_mul_nn (cu q i.toNat) x
      have m1 := @vz_mul_lt (cu q i.toNat) x
      refine z_iload_n X 2 rfl rfl dX1_scale_16 ?_
      refine z_imul X dX1_scale_17 ?_
      refine z_sipush X (n := 32003) (by decide) dX1_scale_18 ?_
      refine z_irem X (by omega) (by omega) (by omega) (by omega) dX1_scale_21 ?_
      refine z_eqi (vz_m _ _) ?_
      refine z_callVv X zm_X1_put zw117 zw118 zw455 (zFit_of (by decide) (by decide)) [.int (iZ (i)), .int (iZ (vz (cu q i.toNat * x)))] (c_X1_put HU l h3 hk (i := i) (by omega) (by omega) (cu q i.toNat * x)) rfl rfl (Nat.le_of_ble_eq_true rfl) (by omega) (gC_L (by omega)) (q := vwCl[3]) rfl rfl dX1_scale_22 (fun S2 hu => ?_)
      rw [va_uu, va_up_self] at hu
      refine z_iinc X [(2, .int (iZ (i + -1))), (0, .ref (ad (k + 31))), (1, .int (iZ (vz x)))] 0 rfl rfl (by decide) dX1_scale_25 ?_
      refine z_goto X (tgt := 5) dX1_scale_28 (by decide) ?_
      refine z_sub [0, 1, 2] rfl (ih (i + -1) _ S2 (by omega) (by omega) hu (fun j => ?_))
      have hv : cu q i.toNat = cu (P k) i.toNat := by rw [h4, if_neg (by omega)]
      rw [pu_cf HU, hv]
      by_cases hj : j = i.toNat
      · rw [if_pos hj, if_pos (show i + -1 < (j : Int) by omega), hj]; clear ih h4; grind
      · rw [if_neg hj, h4 j]
        by_cases hj2 : i < j
        · rw [if_pos hj2, if_pos (show i + -1 < (j : Int) by omega)]
        · rw [if_neg hj2, if_neg (show ¬ i + -1 < (j : Int) by omega)]
  refine z_aload_n X 0 rfl rfl dX1_scale_0 ?_
  refine zl_deg X (by omega) ((mp_sz cu (P k) : Int) - 1) (hR.2.2.2.1 k hk) dX1_scale_1 ?_
  refine z_istore_n X [(2, .int (iZ ((mp_sz cu (P k) : Int) - 1))), (0, .ref (ad (k + 31))), (1, .int (iZ (vz x)))] rfl rfl (by decide) dX1_scale_4 ?_
  exact z_sub [0, 1, 2] rfl (loop (mp_sz cu (P k)) _ (P k) S (by omega) (by omega) (by rw [va_us]; exact hR) (fun j => by
    split
    · rw [mp_sz_out HU (by omega)]; grind
    · rfl))
set_option maxHeartbeats 4000000 in
set_option maxRecDepth 100000 in
theorem c_X1_plusProduct {U : Type} [Lean.Grind.CommRing U] {cu : U → Nat → FP} (HU : mp_P cu) (l : Launch) {D : va_G} {ad : Nat → Nat} {cI cO : ClassId} {P : Nat → U} {T : zRest} {S : zS} (hR : zR cu P T S) {k a b : Nat} (hk : k < 194) (ha : a < 194) (hb : b < 194) (hka : k ≠ a) (hkb : k ≠ b) (x : FP) (hfit : mp_sz cu (P a) = 0 ∨ mp_sz cu (P b) = 0 ∨ mp_sz cu (P a) + mp_sz cu (P b) ≤ 53) : zMv l yX1_plusProduct cX1_plusProduct 6 1 D (zTy cI cO) 419 ad [.ref (ad (k + 31)), .ref (ad (a + 31)), .ref (ad (b + 31)), .int (iZ (vz x))] (gC ad cI cO S) (gC ad cI cO) (fun u => zR cu (va_up P k (P k + mp_C cu x * P a * P b)) T u) := by
  have hsz := hR.2.2.2.2.1 a ha
  have hszb := hR.2.2.2.2.1 b hb
  have hx0 := vz_nn x
  have hx1 := vz_lt x
  refine z_gov zm_X1_plusProduct (Nat.le_of_ble_eq_true rfl) [(0, .ref (ad (k + 31))), (1, .ref (ad (a + 31))), (2, .ref (ad (b + 31))), (3, .int (iZ (vz x)))] rfl (fun p e s m args below meth c A Q X E => ?_)
  have loop : ∀ (n : Nat) (i : Int) (q : U) (S1 : zS), i + n = mp_sz cu (P a) → 0 ≤ i → zR cu (va_up P k q) T S1 → q = P k + mp_C cu x * pq_lo cu (P a) i.toNat * P b → Z p l e (zRm 1) s m args below meth c 6 D 419 ad A 0 0 Q 3 [(4, .int (iZ (i))), (0, .ref (ad (k + 31))), (1, .ref (ad (a + 31))), (2, .ref (ad (b + 31))), (3, .int (iZ (vz x)))] [] (gC ad cI cO S1) := by
    intro n
    induction n with
    | zero =>
      intro i q S1 h1 h2 h3 h4
      refine z_iload X 0 rfl dX1_plusProduct_3 ?_
      refine z_aload_n X 2 rfl rfl dX1_plusProduct_5 ?_
      refine zl_deg X (by omega) ((mp_sz cu (P a) : Int) - 1) (by have h := h3.2.2.2.1 a ha; rw [va_up_ne _ _ hka.symm] at h; exact h) dX1_plusProduct_6 ?_
      refine z_icmp_gt X (tgt := 46) (by omega) (by omega) dX1_plusProduct_9 (by decide) (fun h9 => ?_) (fun h9 => absurd h9 (by omega))
      exact E S1 (by rw [pq_lo_z HU (by omega)] at h4; rw [h4] at h3; exact h3) rfl dX1_plusProduct_46
    | succ n ih =>
      intro i q S1 h1 h2 h3 h4
      refine z_iload X 0 rfl dX1_plusProduct_3 ?_
      refine z_aload_n X 2 rfl rfl dX1_plusProduct_5 ?_
      refine zl_deg X (by omega) ((mp_sz cu (P a) : Int) - 1) (by have h := h3.2.2.2.1 a ha; rw [va_up_ne _ _ hka.symm] at h; exact h) dX1_plusProduct_6 ?_
      refine z_icmp_gt X (tgt := 46) (by omega) (by omega) dX1_plusProduct_9 (by decide) (fun h9 => absurd h9 (by omega)) (fun h9 => ?_)
      refine z_aload_n X 2 rfl rfl dX1_plusProduct_12 ?_
      refine z_iload X 0 rfl dX1_plusProduct_13 ?_
      refine z_callVi X zm_X1_get zw301 zw302 zw400 (zFit_of (by decide) (by decide)) [.int (iZ (i))] (c_X1_getn HU l h3 ha (i := i) (by omega) (by omega)) rfl rfl (Nat.le_of_ble_eq_true rfl) (by omega) (gC_L (by omega)) (q := vwCl[3]) rfl rfl dX1_plusProduct_15 (fun z _ hz => ?_)
      rw [va_up_ne _ _ hka.symm] at hz
      subst hz
      have m0 := @vz_mul_nn (cu (P a) i.toNat) x
      have m1 := @vz_mul_lt (cu (P a) i.toNat) x
      have m2 := vz_nn (cu (P a) i.toNat * x)
      have m3 := vz_lt (cu (P a) i.toNat * x)
      refine z_iload_n X 4 rfl rfl dX1_plusProduct_18 ?_
      refine z_imul X dX1_plusProduct_19 ?_
      refine z_sipush X (n := 32003) (by decide) dX1_plusProduct_20 ?_
      refine z_irem X (by omega) (by omega) (by omega) (by omega) dX1_plusProduct_23 ?_
      refine z_eqi (vz_m _ _) ?_
      refine z_istore X [(5, .int (iZ (vz (cu (P a) i.toNat * x)))), (4, .int (iZ (i))), (0, .ref (ad (k + 31))), (1, .ref (ad (a + 31))), (2, .ref (ad (b + 31))), (3, .int (iZ (vz x)))] rfl (by decide) dX1_plusProduct_24 ?_
      refine z_iload X 0 rfl dX1_plusProduct_26 ?_
      refine z_if_eq X (tgt := 40) (by omega) dX1_plusProduct_28 (by decide) (fun h28 => ?_) (fun h28 => ?_)
      · refine z_iinc X [(4, .int (iZ (i + 1))), (5, .int (iZ (vz (cu (P a) i.toNat * x)))), (0, .ref (ad (k + 31))), (1, .ref (ad (a + 31))), (2, .ref (ad (b + 31))), (3, .int (iZ (vz x)))] 1 rfl rfl (by decide) dX1_plusProduct_40 ?_
        refine z_goto X (tgt := 3) dX1_plusProduct_43 (by decide) ?_
        refine z_sub [0, 2, 3, 4, 5] rfl (ih (i + 1) q S1 (by omega) (by omega) h3 ?_)
        clear ih
        have hz0 : cu (P a) i.toNat * x = 0 := vz_z.mp h28
        rw [h4, show (i + 1).toNat = i.toNat + 1 by omega, pq_lo_s HU]
        have e1 : mp_C cu x * mp_m cu (cu (P a) i.toNat) i.toNat = 0 := by rw [mp_m_C HU, show x * cu (P a) i.toNat = 0 by grind, mp_m_0 HU]
        grind
      · refine z_aload_n X 2 rfl rfl dX1_plusProduct_31 ?_
        refine z_aload_n X 4 rfl rfl dX1_plusProduct_32 ?_
        refine z_iload X 0 rfl dX1_plusProduct_33 ?_
        refine z_iload X 1 rfl dX1_plusProduct_35 ?_
        refine z_callVv X zm_X1_plusShifted zw402 zw403 zw401 (zFit_of (by decide) (by decide)) [.ref (ad (b + 31)), .int (iZ (vz (cu (P a) i.toNat * x))), .int (iZ (i))] (c_X1_plusShifted HU l h3 hk hb hkb (cu (P a) i.toNat * x) (sh := i) (by omega) (by omega) (by rw [va_up_ne _ _ hkb.symm]; have h9 := hfit; omega)) rfl rfl (Nat.le_of_ble_eq_true rfl) (by omega) (gC_L (by omega)) (q := vwCl[3]) rfl rfl dX1_plusProduct_37 (fun S2 hu => ?_)
        rw [va_uu, va_up_self, va_up_ne _ _ hkb.symm] at hu
        refine z_iinc X [(4, .int (iZ (i + 1))), (5, .int (iZ (vz (cu (P a) i.toNat * x)))), (0, .ref (ad (k + 31))), (1, .ref (ad (a + 31))), (2, .ref (ad (b + 31))), (3, .int (iZ (vz x)))] 1 rfl rfl (by decide) dX1_plusProduct_40 ?_
        refine z_goto X (tgt := 3) dX1_plusProduct_43 (by decide) ?_
        refine z_sub [0, 2, 3, 4, 5] rfl (ih (i + 1) _ S2 (by omega) (by omega) hu ?_)
        clear ih
        have e1 : mp_m cu (cu (P a) i.toNat * x) i.toNat = mp_C cu x * mp_m cu (cu (P a) i.toNat) i.toNat := by rw [mp_m_C HU]; congr 1; grind
        rw [h4, show (i + 1).toNat = i.toNat + 1 by omega, pq_lo_s HU, e1]
        grind
  refine z_iconst X (n := 0) dX1_plusProduct_0 ?_
  refine z_istore X [(4, .int (iZ (0))), (0, .ref (ad (k + 31))), (1, .ref (ad (a + 31))), (2, .ref (ad (b + 31))), (3, .int (iZ (vz x)))] rfl (by decide) dX1_plusProduct_1 ?_
  exact loop (mp_sz cu (P a)) 0 (P k) S (by omega) (by omega) (by rw [va_us]; exact hR) (by rw [show (0 : Int).toNat = 0 from rfl, pq_lo_0 HU]; grind)
set_option maxHeartbeats 4000000 in
set_option maxRecDepth 100000 in
theorem c_X1_plusSlopeProduct {U : Type} [Lean.Grind.CommRing U] {cu : U → Nat → FP} (HU : mp_P cu) (l : Launch) {D : va_G} {ad : Nat → Nat} {cI cO : ClassId} {P : Nat → U} {T : zRest} {S : zS} (hR : zR cu P T S) {k a b : Nat} (hk : k < 194) (ha : a < 194) (hb : b < 194) (hka : k ≠ a) (hkb : k ≠ b) (hfit : mp_sz cu (P a) ≤ 1 ∨ mp_sz cu (P b) = 0 ∨ mp_sz cu (P a) + mp_sz cu (P b) ≤ 54) : zMv l yX1_plusSlopeProduct cX1_plusSlopeProduct 5 1 D (zTy cI cO) 419 ad [.ref (ad (k + 31)), .ref (ad (a + 31)), .ref (ad (b + 31))] (gC ad cI cO S) (gC ad cI cO) (fun u => zR cu (va_up P k (P k + md_d cu (P a) * P b)) T u) := by
  have hsz := hR.2.2.2.2.1 a ha
  have hszb := hR.2.2.2.2.1 b hb
  refine z_gov zm_X1_plusSlopeProduct (Nat.le_of_ble_eq_true rfl) [(0, .ref (ad (k + 31))), (1, .ref (ad (a + 31))), (2, .ref (ad (b + 31)))] rfl (fun p e s m args below meth c A Q X E => ?_)
  have loop : ∀ (n : Nat) (i : Int) (q : U) (S1 : zS), (i + n = mp_sz cu (P a) ∨ n = 0 ∧ mp_sz cu (P a) ≤ i) → 1 ≤ i → i ≤ 52 → zR cu (va_up P k q) T S1 → q = P k + pq_lo cu (md_d cu (P a)) (i - 1).toNat * P b → Z p l e (zRm 1) s m args below meth c 5 D 419 ad A 0 0 Q 2 [(3, .int (iZ (i))), (0, .ref (ad (k + 31))), (1, .ref (ad (a + 31))), (2, .ref (ad (b + 31)))] [] (gC ad cI cO S1) := by
    intro n
    induction n with
    | zero =>
      intro i q S1 h1 h2 h2b h3 h4
      refine z_iload_n X 0 rfl rfl dX1_plusSlopeProduct_2 ?_
      refine z_aload_n X 2 rfl rfl dX1_plusSlopeProduct_3 ?_
      refine zl_deg X (by omega) ((mp_sz cu (P a) : Int) - 1) (by have h := h3.2.2.2.1 a ha; rw [va_up_ne _ _ hka.symm] at h; exact h) dX1_plusSlopeProduct_4 ?_
      refine z_icmp_gt X (tgt := 44) (by omega) (by omega) dX1_plusSlopeProduct_7 (by decide) (fun h7 => ?_) (fun h7 => absurd h7 (by omega))
      exact E S1 (by rw [pq_lo_z HU (md_sz HU (by omega))] at h4; rw [h4] at h3; exact h3) rfl dX1_plusSlopeProduct_44
    | succ n ih =>
      intro i q S1 h1 h2 h2b h3 h4
      refine z_iload_n X 0 rfl rfl dX1_plusSlopeProduct_2 ?_
      refine z_aload_n X 2 rfl rfl dX1_plusSlopeProduct_3 ?_
      refine zl_deg X (by omega) ((mp_sz cu (P a) : Int) - 1) (by have h := h3.2.2.2.1 a ha; rw [va_up_ne _ _ hka.symm] at h; exact h) dX1_plusSlopeProduct_4 ?_
      refine z_icmp_gt X (tgt := 44) (by omega) (by omega) dX1_plusSlopeProduct_7 (by decide) (fun h7 => absurd h7 (by omega)) (fun h7 => ?_)
      refine z_aload_n X 2 rfl rfl dX1_plusSlopeProduct_10 ?_
      refine z_iload_n X 0 rfl rfl dX1_plusSlopeProduct_11 ?_
      refine z_callVi X zm_X1_get zw301 zw302 zw400 (zFit_of (by decide) (by decide)) [.int (iZ (i))] (c_X1_getn HU l h3 ha (i := i) (by omega) (by omega)) rfl rfl (Nat.le_of_ble_eq_true rfl) (by omega) (gC_L (by omega)) (q := vwCl[3]) rfl rfl dX1_plusSlopeProduct_12 (fun z _ hz => ?_)
      rw [va_up_ne _ _ hka.symm] at hz
      subst hz
      have hin := vz_ofn (i := i) (by omega) (by omega)
      have m0 := @vz_mul_nn (cu (P a) i.toNat) (mf_n i.toNat)
      have m1 := @vz_mul_lt (cu (P a) i.toNat) (mf_n i.toNat)
      rw [hin] at m0 m1
      have m2 := vz_nn (cu (P a) i.toNat * mf_n i.toNat)
      have m3 := vz_lt (cu (P a) i.toNat * mf_n i.toNat)
      have hdc : cu (md_d cu (P a)) (i - 1).toNat = cu (P a) i.toNat * mf_n i.toNat := by rw [md_cf HU, mr_nR_FP, show (i - 1).toNat + 1 = i.toNat by omega]; clear ih; grind
      refine z_iload_n X 0 rfl rfl dX1_plusSlopeProduct_15 ?_
      refine z_imul X dX1_plusSlopeProduct_16 ?_
      refine z_sipush X (n := 32003) (by decide) dX1_plusSlopeProduct_17 ?_
      refine z_irem X (by omega) (by omega) (by omega) (by omega) dX1_plusSlopeProduct_20 ?_
      refine z_eqi (vz_mi (by omega) (by omega)) ?_
      refine z_istore X [(4, .int (iZ (vz (cu (P a) i.toNat * mf_n i.toNat)))), (3, .int (iZ (i))), (0, .ref (ad (k + 31))), (1, .ref (ad (a + 31))), (2, .ref (ad (b + 31)))] rfl (by decide) dX1_plusSlopeProduct_21 ?_
      refine z_iload X 0 rfl dX1_plusSlopeProduct_23 ?_
      refine z_if_eq X (tgt := 38) (by omega) dX1_plusSlopeProduct_25 (by decide) (fun h25 => ?_) (fun h25 => ?_)
      · refine z_iinc X [(3, .int (iZ (i + 1))), (4, .int (iZ (vz (cu (P a) i.toNat * mf_n i.toNat)))), (0, .ref (ad (k + 31))), (1, .ref (ad (a + 31))), (2, .ref (ad (b + 31)))] 1 rfl rfl (by decide) dX1_plusSlopeProduct_38 ?_
        refine z_goto X (tgt := 2) dX1_plusSlopeProduct_41 (by decide) ?_
        refine z_sub [0, 2, 3, 4] rfl (ih (i + 1) q S1 (by omega) (by omega) (by omega) h3 ?_)
        clear ih
        have hz0 : cu (P a) i.toNat * mf_n i.toNat = 0 := vz_z.mp h25
        rw [h4, show (i + 1 - 1).toNat = (i - 1).toNat + 1 by omega, pq_lo_s HU, hdc, hz0, mp_m_0 HU]
        grind
      · refine z_aload_n X 2 rfl rfl dX1_plusSlopeProduct_28 ?_
        refine z_aload_n X 4 rfl rfl dX1_plusSlopeProduct_29 ?_
        refine z_iload X 0 rfl dX1_plusSlopeProduct_30 ?_
        refine z_iload_n X 1 rfl rfl dX1_plusSlopeProduct_32 ?_
        refine z_iconst X (n := 1) dX1_plusSlopeProduct_33 ?_
        refine z_isub X dX1_plusSlopeProduct_34 ?_
        refine z_callVv X zm_X1_plusShifted zw402 zw403 zw401 (zFit_of (by decide) (by decide)) [.ref (ad (b + 31)), .int (iZ (vz (cu (P a) i.toNat * mf_n i.toNat))), .int (iZ (i - 1))] (c_X1_plusShifted HU l h3 hk hb hkb (cu (P a) i.toNat * mf_n i.toNat) (sh := i - 1) (by omega) (by omega) (by rw [va_up_ne _ _ hkb.symm]; have h9 := hfit; omega)) rfl rfl (Nat.le_of_ble_eq_true rfl) (by omega) (gC_L (by omega)) (q := vwCl[3]) rfl rfl dX1_plusSlopeProduct_35 (fun S2 hu => ?_)
        rw [va_uu, va_up_self, va_up_ne _ _ hkb.symm] at hu
        refine z_iinc X [(3, .int (iZ (i + 1))), (4, .int (iZ (vz (cu (P a) i.toNat * mf_n i.toNat)))), (0, .ref (ad (k + 31))), (1, .ref (ad (a + 31))), (2, .ref (ad (b + 31)))] 1 rfl rfl (by decide) dX1_plusSlopeProduct_38 ?_
        refine z_goto X (tgt := 2) dX1_plusSlopeProduct_41 (by decide) ?_
        refine z_sub [0, 2, 3, 4] rfl (ih (i + 1) _ S2 (by omega) (by omega) (by omega) hu ?_)
        clear ih
        rw [h4, show (i + 1 - 1).toNat = (i - 1).toNat + 1 by omega, pq_lo_s HU, hdc]
        grind
  refine z_iconst X (n := 1) dX1_plusSlopeProduct_0 ?_
  refine z_istore_n X [(3, .int (iZ (1))), (0, .ref (ad (k + 31))), (1, .ref (ad (a + 31))), (2, .ref (ad (b + 31)))] rfl rfl (by decide) dX1_plusSlopeProduct_1 ?_
  exact loop (mp_sz cu (P a) - 1) 1 (P k) S (by omega) (by omega) (by omega) (by rw [va_us]; exact hR) (by rw [show ((1 : Int) - 1).toNat = 0 from rfl, pq_lo_0 HU]; grind)
set_option maxHeartbeats 4000000 in
set_option maxRecDepth 100000 in
theorem c_X1_timesRoot {U : Type} [Lean.Grind.CommRing U] {cu : U → Nat → FP} (HU : mp_P cu) (l : Launch) {D : va_G} {ad : Nat → Nat} {cI cO : ClassId} {P : Nat → U} {T : zRest} {S : zS} (hR : zR cu P T S) {k : Nat} (hk : k < 194) (x : FP) (hfit : mp_sz cu (P k) ≤ 51) : zMv l yX1_timesRoot cX1_timesRoot 3 1 D (zTy cI cO) 419 ad [.ref (ad (k + 31)), .int (iZ (vz x))] (gC ad cI cO S) (gC ad cI cO) (fun u => zR cu (va_up P k (mp_X cu x * P k)) T u) := by
  have hx0 := vz_nn x
  have hx1 := vz_lt x
  refine z_gov zm_X1_timesRoot (Nat.le_of_ble_eq_true rfl) [(0, .ref (ad (k + 31))), (1, .int (iZ (vz x)))] rfl (fun p e s m args below meth c A Q X E => ?_)
  have loop : ∀ (n : Nat) (i : Int) (q : U) (S1 : zS), i + 1 = n → i < 52 → zR cu (va_up P k q) T S1 → (∀ j : Nat, cu q j = if i < j then (if j = 0 then 0 else cu (P k) (j - 1)) - x * cu (P k) j else cu (P k) j) → Z p l e (zRm 1) s m args below meth c 3 D 419 ad A 0 0 Q 7 [(2, .int (iZ (i))), (0, .ref (ad (k + 31))), (1, .int (iZ (vz x)))] [] (gC ad cI cO S1) := by
    intro n
    induction n with
    | zero =>
      intro i q S1 h1 h2 h3 h4
      refine z_iload_n X 0 rfl rfl dX1_timesRoot_7 ?_
      refine z_if_lt X (tgt := 45) (by omega) dX1_timesRoot_8 (by decide) (fun h8 => ?_) (fun h8 => absurd h8 (by omega))
      exact E S1 (by
        have : q = mp_X cu x * P k := mp_ext HU (fun j => by
          rw [h4, if_pos (by omega), mp_X, show (mp_m cu 1 1 - mp_C cu x) * P k = mp_m cu 1 1 * P k - mp_C cu x * P k by grind, mp_sub HU, mp_C_mul HU, mp_m_mul HU]
          by_cases hj : j = 0
          · rw [if_pos hj, if_neg (by omega)]
          · rw [if_neg hj, if_pos (by omega)]; grind)
        rw [← this]
        exact h3) rfl dX1_timesRoot_45
    | succ n ih =>
      intro i q S1 h1 h2 h3 h4
      obtain ⟨y, hy⟩ : ∃ y : FP, y = if i = 0 then 0 else cu (P k) (i.toNat - 1) := ⟨_, rfl⟩
      refine z_iload_n X 0 rfl rfl dX1_timesRoot_7 ?_
      refine z_if_lt X (tgt := 45) (by omega) dX1_timesRoot_8 (by decide) (fun h8 => absurd h8 (by omega)) (fun h8 => ?_)
      refine z_aload_n X 1 rfl rfl dX1_timesRoot_11 ?_
      refine z_iload_n X 0 rfl rfl dX1_timesRoot_12 ?_
      refine z_aload_n X 1 rfl rfl dX1_timesRoot_13 ?_
      refine z_iload_n X 0 rfl rfl dX1_timesRoot_14 ?_
      refine z_iconst X (n := 1) dX1_timesRoot_15 ?_
      refine z_isub X dX1_timesRoot_16 ?_
      refine z_callVi X zm_X1_get zw301 zw302 zw400 (zFit_of (by decide) (by decide)) [.int (iZ (i - 1))] (c_X1_get HU l h3 hk (i := i - 1) (by omega)) rfl rfl (Nat.le_of_ble_eq_true rfl) (by omega) (gC_L (by omega)) (q := vwCl[3]) rfl rfl dX1_timesRoot_17 (fun z _ hz => ?_)
      have hz1 : z = vz y := by
        rw [hz, va_up_self, hy]
        by_cases hi0 : i = 0
        · rw [if_neg (by omega), if_pos hi0]; rfl
        · rw [if_pos (by omega), if_neg hi0, h4, if_neg (by omega), show (i - 1).toNat = i.toNat - 1 by omega]
      subst hz1
      refine z_sipush X (n := 32003) (by decide) dX1_timesRoot_20 ?_
      refine z_iload_n X 2 rfl rfl dX1_timesRoot_23 ?_
      refine z_isub X dX1_timesRoot_24 ?_
      refine z_aload_n X 1 rfl rfl dX1_timesRoot_25 ?_
      refine z_iload_n X 0 rfl rfl dX1_timesRoot_26 ?_
      refine z_callVi X zm_X1_get zw301 zw302 zw400 (zFit_of (by decide) (by decide)) [.int (iZ (i))] (c_X1_getn HU l h3 hk (i := i) (by omega) (by omega)) rfl rfl (Nat.le_of_ble_eq_true rfl) (by omega) (gC_L (by omega)) (q := vwCl[3]) rfl rfl dX1_timesRoot_27 (fun z _ hz => ?_)
      rw [va_up_self, h4, if_neg (by omega)] at hz
      subst hz
      have m0 := vz_subm_nn x (cu (P k) i.toNat)
      have m1 := vz_subm_le x (cu (P k) i.toNat)
      have m2 := vz_nn y
      have m3 := vz_lt y
      refine z_imul X dX1_timesRoot_30 ?_
      refine z_iadd X dX1_timesRoot_31 ?_
      refine z_sipush X (n := 32003) (by decide) dX1_timesRoot_32 ?_
      refine z_irem X (by omega) (by omega) (by omega) (by omega) dX1_timesRoot_35 ?_
      refine z_eqi (vz_subm _ _ _) ?_
      refine z_callVv X zm_X1_put zw117 zw118 zw455 (zFit_of (by decide) (by decide)) [.int (iZ (i)), .int (iZ (vz (y - x * cu (P k) i.toNat)))] (c_X1_put HU l h3 hk (i := i) (by omega) (by omega) (y - x * cu (P k) i.toNat)) rfl rfl (Nat.le_of_ble_eq_true rfl) (by omega) (gC_L (by omega)) (q := vwCl[3]) rfl rfl dX1_timesRoot_36 (fun S2 hu => ?_)
      rw [va_uu, va_up_self] at hu
      refine z_iinc X [(2, .int (iZ (i + -1))), (0, .ref (ad (k + 31))), (1, .int (iZ (vz x)))] 0 rfl rfl (by decide) dX1_timesRoot_39 ?_
      refine z_goto X (tgt := 7) dX1_timesRoot_42 (by decide) ?_
      refine z_sub [0, 1, 2] rfl (ih (i + -1) _ S2 (by omega) (by omega) hu (fun j => ?_))
      rw [pu_cf HU]
      by_cases hj : j = i.toNat
      · rw [if_pos hj, if_pos (show i + -1 < (j : Int) by omega), hj, hy]
        congr 1
        by_cases hi0 : i = 0
        · rw [if_pos hi0, if_pos (by omega)]
        · rw [if_neg hi0, if_neg (by omega)]
      · rw [if_neg hj, h4 j]
        by_cases hj2 : i < j
        · rw [if_pos hj2, if_pos (show i + -1 < (j : Int) by omega)]
        · rw [if_neg hj2, if_neg (show ¬ i + -1 < (j : Int) by omega)]
  refine z_aload_n X 0 rfl rfl dX1_timesRoot_0 ?_
  refine zl_deg X (by omega) ((mp_sz cu (P k) : Int) - 1) (hR.2.2.2.1 k hk) dX1_timesRoot_1 ?_
  refine z_iconst X (n := 1) dX1_timesRoot_4 ?_
  refine z_iadd X dX1_timesRoot_5 ?_
  refine z_istore_n X [(2, .int (iZ (((mp_sz cu (P k) : Int) - 1) + 1))), (0, .ref (ad (k + 31))), (1, .int (iZ (vz x)))] rfl rfl (by decide) dX1_timesRoot_6 ?_
  exact z_sub [0, 1, 2] rfl (loop (mp_sz cu (P k) + 1) _ (P k) S (by omega) (by omega) (by rw [va_us]; exact hR) (fun j => by
    split
    · rw [if_neg (by omega), mp_sz_out HU (by omega), mp_sz_out HU (by omega)]; grind
    · rfl))
