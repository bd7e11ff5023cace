/-! rows of a polynomial in both letters -/
section
variable {U A : Type}
/-- Poly q holds a -/
def zV [Lean.Grind.CommRing U] [Lean.Grind.CommRing A] (ca : A → Nat → U) (P : Nat → U) (q : Nat) (a : A) : Prop := (∀ i, i < 13 → P (13 * q + i) = ca a i) ∧ mp_sz ca a ≤ 13
/-- the first n rows of Poly q written anew -/
def pwn {U : Type} (P : Nat → U) (q : Nat) (f : Nat → U) (n : Nat) : Nat → U := fun j => if 13 * q ≤ j ∧ j < 13 * q + n then f (j - 13 * q) else P j
def pA [Lean.Grind.CommRing U] [Lean.Grind.CommRing A] (ca : A → Nat → U) (P : Nat → U) (q : Nat) (a : A) : Nat → U := pwn P q (ca a) 13
theorem pwn_0 {U : Type} (P : Nat → U) (q : Nat) (f : Nat → U) : pwn P q f 0 = P := funext (fun j => if_neg (by omega))
theorem pwn_s {U : Type} (P : Nat → U) (q : Nat) (f : Nat → U) (n : Nat) : va_up (pwn P q f n) (13 * q + n) (f n) = pwn P q f (n + 1) := funext (fun j => by
  by_cases h : j = 13 * q + n
  · rw [h, va_up_self, pwn, if_pos (by omega), show 13 * q + n - 13 * q = n by omega]
  · rw [va_up_ne _ _ h, pwn, pwn]
    by_cases h2 : 13 * q ≤ j ∧ j < 13 * q + n
    · rw [if_pos h2, if_pos (by omega)]
    · rw [if_neg h2, if_neg (by omega)])
theorem pwn_in {U : Type} (P : Nat → U) (q : Nat) (f : Nat → U) {n i : Nat} (h : i < n) : pwn P q f n (13 * q + i) = f i := by rw [pwn, if_pos (by omega), show 13 * q + i - 13 * q = i by omega]
theorem pwn_out {U : Type} (P : Nat → U) (q : Nat) (f : Nat → U) {n j : Nat} (h : j < 13 * q ∨ 13 * q + n ≤ j) : pwn P q f n j = P j := if_neg (by omega)
theorem pA_in [Lean.Grind.CommRing U] [Lean.Grind.CommRing A] (ca : A → Nat → U) (P : Nat → U) (q : Nat) (a : A) {i : Nat} (h : i < 13) : pA ca P q a (13 * q + i) = ca a i := pwn_in P q _ h
theorem pA_out [Lean.Grind.CommRing U] [Lean.Grind.CommRing A] (ca : A → Nat → U) (P : Nat → U) (q : Nat) (a : A) {j : Nat} (h : j < 13 * q ∨ 13 * q + 13 ≤ j) : pA ca P q a j = P j := pwn_out P q _ h
theorem zV_pA [Lean.Grind.CommRing U] [Lean.Grind.CommRing A] {ca : A → Nat → U} {P : Nat → U} {q : Nat} {a : A} (h : mp_sz ca a ≤ 13) : zV ca (pA ca P q a) q a := ⟨fun _ hi => pA_in ca P q a hi, h⟩
theorem zV_pAn [Lean.Grind.CommRing U] [Lean.Grind.CommRing A] {ca : A → Nat → U} {P : Nat → U} {q q2 : Nat} {a b : A} (hne : q2 ≠ q) (h : zV ca P q2 b) : zV ca (pA ca P q a) q2 b := ⟨fun i hi => by rw [pA_out ca P q a (by omega)]; exact h.1 i hi, h.2⟩
theorem zV_up [Lean.Grind.CommRing U] [Lean.Grind.CommRing A] {ca : A → Nat → U} {P : Nat → U} {q k : Nat} {a : A} {x : U} (hne : k < 13 * q ∨ 13 * q + 13 ≤ k) (h : zV ca P q a) : zV ca (va_up P k x) q a := ⟨fun i hi => by rw [va_up_ne _ _ (by omega)]; exact h.1 i hi, h.2⟩
theorem zV_eq [Lean.Grind.CommRing U] [Lean.Grind.CommRing A] {ca : A → Nat → U} {P P' : Nat → U} {q : Nat} {a : A} (h : zV ca P q a) (e : ∀ i, i < 13 → P' (13 * q + i) = P (13 * q + i)) : zV ca P' q a := ⟨fun i hi => by rw [e i hi]; exact h.1 i hi, h.2⟩
theorem pA_self [Lean.Grind.CommRing U] [Lean.Grind.CommRing A] {ca : A → Nat → U} {P : Nat → U} {q : Nat} {a : A} (h : zV ca P q a) : pA ca P q a = P := funext (fun j => by
  by_cases hj : 13 * q ≤ j ∧ j < 13 * q + 13
  · rw [show j = 13 * q + (j - 13 * q) by omega, pA_in ca P q a (by omega), h.1 _ (by omega)]
  · rw [pA_out ca P q a (by omega)])
theorem pA_pA [Lean.Grind.CommRing U] [Lean.Grind.CommRing A] (ca : A → Nat → U) (P : Nat → U) (q : Nat) (a b : A) : pA ca (pA ca P q a) q b = pA ca P q b := funext (fun j => by
  by_cases hj : 13 * q ≤ j ∧ j < 13 * q + 13
  · rw [show j = 13 * q + (j - 13 * q) by omega, pA_in ca _ q b (by omega), pA_in ca _ q b (by omega)]
  · rw [pA_out ca _ q b (by omega), pA_out ca _ q b (by omega), pA_out ca _ q a (by omega)])
theorem pA_up [Lean.Grind.CommRing U] [Lean.Grind.CommRing A] {ca : A → Nat → U} (HA : mp_P ca) (P : Nat → U) (q : Nat) (a : A) {n : Nat} (hn : n < 13) (v : U) : va_up (pA ca P q a) (13 * q + n) (ca a n + v) = pA ca P q (a + mp_m ca v n) := funext (fun j => by
  by_cases hj : 13 * q ≤ j ∧ j < 13 * q + 13
  · rw [show j = 13 * q + (j - 13 * q) by omega, pA_in ca _ q _ (by omega), mp_add HA, mp_m_cf HA]
    by_cases e : j - 13 * q = n
    · rw [e, va_up_self, if_pos rfl]
    · rw [va_up_ne _ _ (by omega), pA_in ca _ q _ (by omega), if_neg e]; grind
  · rw [va_up_ne _ _ (by omega), pA_out ca _ q _ (by omega), pA_out ca _ q _ (by omega)])
theorem pA_xz [Lean.Grind.CommRing U] [Lean.Grind.CommRing A] {cu : U → Nat → FP} {ca : A → Nat → U} (HU : mp_P cu) (HA : mp_P ca) {P : Nat → U} {T : zRest} {S : zS} (hR : zR cu P T S) {q : Nat} {a : A} (hq : q < 14) (h : zV ca P q a) : mp_xz cu ca a ≤ 52 := mp_xz_le HU HA (fun i => by
  by_cases hi : i < 13
  · rw [← h.1 i hi]; exact hR.2.2.2.2.1 _ (by omega)
  · rw [mp_sz_out HA (by have := h.2; omega), (mp_sz_0 HU).mpr rfl]; omega)
noncomputable def pa_lo [Lean.Grind.CommRing U] [Lean.Grind.CommRing A] (ca : A → Nat → U) (a : A) (k : Nat) : A := mp_mk ca (fun n => if n < k then ca a n else 0)
theorem pa_lo_cf [Lean.Grind.CommRing U] [Lean.Grind.CommRing A] {ca : A → Nat → U} (HA : mp_P ca) (a : A) (k n : Nat) : ca (pa_lo ca a k) n = if n < k then ca a n else 0 := mp_mk_cf HA k (fun n hn => if_neg (by omega)) n
theorem pa_lo_s [Lean.Grind.CommRing U] [Lean.Grind.CommRing A] {ca : A → Nat → U} (HA : mp_P ca) (a : A) (k : Nat) : pa_lo ca a (k + 1) = pa_lo ca a k + mp_m ca (ca a k) k := mp_ext HA (fun n => by
  rw [mp_add HA, pa_lo_cf HA, pa_lo_cf HA, mp_m_cf HA]
  by_cases h : n = k
  · rw [h, if_pos (by omega), if_neg (by omega), if_pos rfl]; grind
  · rw [if_neg h]
    by_cases h2 : n < k
    · rw [if_pos h2, if_pos (by omega)]; grind
    · rw [if_neg h2, if_neg (by omega)]; grind)
theorem pa_lo_0 [Lean.Grind.CommRing U] [Lean.Grind.CommRing A] {ca : A → Nat → U} (HA : mp_P ca) (a : A) : pa_lo ca a 0 = 0 := mp_ext HA (fun n => by rw [pa_lo_cf HA, if_neg (by omega), mp_zero HA])
theorem pa_lo_z [Lean.Grind.CommRing U] [Lean.Grind.CommRing A] {ca : A → Nat → U} (HA : mp_P ca) {a : A} {k : Nat} (h : mp_sz ca a ≤ k) : pa_lo ca a k = a := mp_ext HA (fun n => by
  rw [pa_lo_cf HA]
  split
  · rfl
  · rw [mp_sz_out HA (by omega)])
end
section ZQ
variable {p : Program} {l : Launch} {e : Env} {R : Room} {s : State} {m : MethodId} {args : Array Value} {below : List Frame} {meth : Method} {c : Code} {cc : ByteArray} {nL : Nat} {own : String} {ret : Option FieldType} {D : va_G} {ad : Nat → Nat} {cI cO : ClassId} {A : Nat → Prop} {cells slots : Nat} {Q : State → Prop} {pc : Nat} {lv : List (Nat × Value)} {st : List Value} {S : zS}
theorem zp_rows (X : zCx p s m args meth c cc nL RX2 ret D (zTy cI cO) 419 ad A) {q : Nat} (h : q < 14) (hd : decode cc pc = .ok (.getfield 11, 3)) (kk : Z p l e R s m args below meth c nL D 419 ad A cells slots Q (pc + 3) lv (.ref (ad (q + 17)) :: st) (gC ad cI cO S)) : Z p l e R s m args below meth c nL D 419 ad A cells slots Q pc lv (.ref (ad (q + 3)) :: st) (gC ad cI cO S) :=
  z_get X zinX2 (q + 3) (by omega) (gC_P h) (ci := 4) rfl 0 (by decide) (ref := "TowerFields$Poly") zw49 rfl rfl hd kk
theorem zp_ald (X : zCx p s m args meth c cc nL own ret D (zTy cI cO) 419 ad A) {q : Nat} (h : q < 14) {i : Int} (h0 : 0 ≤ i) (h1 : i < 13) (hd : decode cc pc = .ok (.aaload, 1)) (kk : Z p l e R s m args below meth c nL D 419 ad A cells slots Q (pc + 1) lv (.ref (ad (13 * q + i.toNat + 31)) :: st) (gC ad cI cO S)) : Z p l e R s m args below meth c nL D 419 ad A cells slots Q pc lv (.int (iZ i) :: .ref (ad (q + 17)) :: st) (gC ad cI cO S) :=
  z_aald X (q + 17) 1 (by omega) (gC_W h) rfl h0 (by omega) (by omega) (by rw [if_pos (by omega)]) hd kk
theorem z_max {N : Nat} {tys : List (ClassId × FieldType)} {g : Nat → va_E} (X : zCx p s m args meth c cc nL own ret D tys N ad A) {index : Nat} {a b : Int} (ha : -2147483648 ≤ a ∧ a < 2147483648) (hb : -2147483648 ≤ b ∧ b < 2147483648) (hlink : Cond.methodLink own index Lib.Math.max.name ∈ wsG) (hfr : 1 ≤ R.frames) (hlo : (st.map fun v => v.category).sum + 13 ≤ R.locals) (hc : cells ≤ R.cells) (hs : slots ≤ R.slots) (hd : decode cc pc = .ok (.invokestatic index, 3)) (k : Z p l e R s m args below meth c nL D N ad A cells slots Q (pc + 3) lv (.int (iZ (if a < b then b else a)) :: st) g) : Z p l e R s m args below meth c nL D N ad A cells slots Q pc lv (.int (iZ b) :: .int (iZ a) :: st) g := fun H locs ls hl hP hS => va_mmax (zx_e X) (zx_b X) ((zx_m X).trans hl.1.symm) (zx_o X) (zx_w X _ hlink) (zx_w X _ zw471) (zx_w X _ zw15) (zx_w X _ zw472) hfr hlo hc hs hd (by
  have h1 : (if iZ a < iZ b then iZ b else iZ a) = iZ (if a < b then b else a) := by
    by_cases h : a < b
    · rw [if_pos h, if_pos ((iZ_lt ha hb).mpr h)]
    · rw [if_neg h, if_neg (fun q => h ((iZ_lt ha hb).mp q))]
  rw [h1]
  exact k H locs ls hl hP hS)
theorem z_min {N : Nat} {tys : List (ClassId × FieldType)} {g : Nat → va_E} (X : zCx p s m args meth c cc nL own ret D tys N ad A) {index : Nat} {a b : Int} (ha : -2147483648 ≤ a ∧ a < 2147483648) (hb : -2147483648 ≤ b ∧ b < 2147483648) (hlink : Cond.methodLink own index Lib.Math.min.name ∈ wsG) (hfr : 1 ≤ R.frames) (hlo : (st.map fun v => v.category).sum + 13 ≤ R.locals) (hc : cells ≤ R.cells) (hs : slots ≤ R.slots) (hd : decode cc pc = .ok (.invokestatic index, 3)) (k : Z p l e R s m args below meth c nL D N ad A cells slots Q (pc + 3) lv (.int (iZ (if b < a then b else a)) :: st) g) : Z p l e R s m args below meth c nL D N ad A cells slots Q pc lv (.int (iZ b) :: .int (iZ a) :: st) g := fun H locs ls hl hP hS => va_mmin (zx_e X) (zx_b X) ((zx_m X).trans hl.1.symm) (zx_o X) (zx_w X _ hlink) (zx_w X _ zw506) (zx_w X _ zw15) (zx_w X _ zw507) hfr hlo hc hs hd (by
  have h1 : (if iZ b < iZ a then iZ b else iZ a) = iZ (if b < a then b else a) := by
    by_cases h : b < a
    · rw [if_pos h, if_pos ((iZ_lt hb ha).mpr h)]
    · rw [if_neg h, if_neg (fun q => h ((iZ_lt hb ha).mp q))]
  rw [h1]
  exact k H locs ls hl hP hS)
end ZQ
set_option maxHeartbeats 4000000 in
set_option maxRecDepth 100000 in
theorem c_X2_row (l : Launch) {D : va_G} {ad : Nat → Nat} {cI cO : ClassId} (S : zS) {q : Nat} (hq : q < 14) {i : Int} (hi : -2147483648 ≤ i ∧ i < 2147483648) : zMr l yX2_row cX2_row 2 (some (.object "TowerFields$Line")) 0 D (zTy cI cO) 419 ad [.ref (ad (q + 3)), .int (iZ i)] (gC ad cI cO S) (fun _ : Unit => gC ad cI cO S) (fun k _ => k = 13 * q + (if i < 0 then 0 else if i < 13 then i.toNat else 12) + 31) := by
  refine z_gor zm_X2_row (Nat.le_of_ble_eq_true rfl) [(0, .ref (ad (q + 3))), (1, .int (iZ (i)))] rfl (fun p e s m args below meth c A Q X E => ?_)
  refine z_aload_n X 0 rfl rfl dX2_row_0 ?_
  refine zp_rows X (by omega) dX2_row_1 ?_
  refine z_iload_n X 1 rfl rfl dX2_row_4 ?_
  refine z_if_ge X (tgt := 12) (by omega) dX2_row_5 (by decide) (fun hb5 => ?_) (fun hb5 => ?_)
  · refine z_iload_n X 1 rfl rfl dX2_row_12 ?_
    refine z_bipush X (n := 13) (by decide) dX2_row_13 ?_
    refine z_icmp_ge X (tgt := 22) (by omega) (by omega) dX2_row_15 (by decide) (fun hb15 => ?_) (fun hb15 => ?_)
    · refine z_bipush X (n := 12) (by decide) dX2_row_22 ?_
      refine zp_ald X (by omega) (by omega) (by omega) dX2_row_24 ?_
      exact E () (by rw [if_neg (by omega), if_neg (by omega)]; rfl) rfl dX2_row_25
    · refine z_iload_n X 1 rfl rfl dX2_row_18 ?_
      refine z_goto X (tgt := 24) dX2_row_19 (by decide) ?_
      refine zp_ald X (by omega) (by omega) (by omega) dX2_row_24 ?_
      exact E () (by rw [if_neg (by omega), if_pos (by omega)]) rfl dX2_row_25
  · refine z_iconst X (n := 0) dX2_row_8 ?_
    refine z_goto X (tgt := 24) dX2_row_9 (by decide) ?_
    refine zp_ald X (by omega) (by omega) (by omega) dX2_row_24 ?_
    exact E () (by rw [if_pos (by omega)]; rfl) rfl dX2_row_25
set_option maxHeartbeats 4000000 in
set_option maxRecDepth 100000 in
theorem c_X2_clear {U : Type} [Lean.Grind.CommRing U] {cu : U → Nat → FP} (HU : mp_P cu) (l : Launch) {D : va_G} {ad : Nat → Nat} {cI cO : ClassId} {P : Nat → U} {T : zRest} {S : zS} (hR : zR cu P T S) {q : Nat} (hq : q < 14) : zMv l yX2_clear cX2_clear 2 1 D (zTy cI cO) 419 ad [.ref (ad (q + 3))] (gC ad cI cO S) (gC ad cI cO) (fun u => zR cu (pwn P q (fun _ => (0 : U)) 13) T u) := by
  refine z_gov zm_X2_clear (Nat.le_of_ble_eq_true rfl) [(0, .ref (ad (q + 3)))] rfl (fun p e s m args below meth c A Q X E => ?_)
  have loop : ∀ (n : Nat) (i : Int) (S1 : zS), i + n = 13 → 0 ≤ i → zR cu (pwn P q (fun _ => (0 : U)) i.toNat) T S1 → Z p l e (zRm 1) s m args below meth c 2 D 419 ad A 0 0 Q 2 [(1, .int (iZ (i))), (0, .ref (ad (q + 3)))] [] (gC ad cI cO S1) := by
    intro n
    induction n with
    | zero =>
      intro i S1 h1 h2 h3
      refine z_iload_n X 0 rfl rfl dX2_clear_2 ?_
      refine z_bipush X (n := 13) (by decide) dX2_clear_3 ?_
      refine z_icmp_ge X (tgt := 23) (by omega) (by omega) dX2_clear_5 (by decide) (fun hb5 => ?_) (fun hb5 => absurd hb5 (by omega))
      exact E S1 (by rw [show i.toNat = 13 by omega] at h3; exact h3) rfl dX2_clear_23
    | succ n ih =>
      intro i S1 h1 h2 h3
      refine z_iload_n X 0 rfl rfl dX2_clear_2 ?_
      refine z_bipush X (n := 13) (by decide) dX2_clear_3 ?_
      refine z_icmp_ge X (tgt := 23) (by omega) (by omega) dX2_clear_5 (by decide) (fun hb5 => absurd hb5 (by omega)) (fun hb5 => ?_)
      refine z_aload_n X 1 rfl rfl dX2_clear_8 ?_
      refine zp_rows X (by omega) dX2_clear_9 ?_
      refine z_iload_n X 0 rfl rfl dX2_clear_12 ?_
      refine zp_ald X (by omega) (by omega) (by omega) dX2_clear_13 ?_
      refine z_callVv X zm_X1_clear zw290 zw291 zw289 (zFit_of (by decide) (by decide)) [] (c_X1_clear HU l h3 (k := 13 * q + i.toNat) (by omega)) rfl rfl (Nat.le_of_ble_eq_true rfl) (by omega) (gC_L (by omega)) (q := vwCl[3]) rfl rfl dX2_clear_14 (fun S2 hu => ?_)
      refine z_iinc X [(1, .int (iZ (i + 1))), (0, .ref (ad (q + 3)))] 0 rfl rfl (by decide) dX2_clear_17 ?_
      refine z_goto X (tgt := 2) dX2_clear_20 (by decide) ?_
      refine z_sub [0, 1] rfl (ih (i + 1) S2 (by omega) (by omega) ?_)
      rw [show (i + 1).toNat = i.toNat + 1 by omega, ← pwn_s]
      exact hu
  refine z_iconst X (n := 0) dX2_clear_0 ?_
  refine z_istore_n X [(1, .int (iZ (0))), (0, .ref (ad (q + 3)))] rfl rfl (by decide) dX2_clear_1 ?_
  exact z_sub [0, 1] rfl (loop 13 0 S (by omega) (by omega) (by rw [show (0 : Int).toNat = 0 from rfl, pwn_0]; exact hR))
set_option maxHeartbeats 4000000 in
set_option maxRecDepth 100000 in
theorem c_X2_copyOf {U : Type} [Lean.Grind.CommRing U] {cu : U → Nat → FP} (HU : mp_P cu) (l : Launch) {D : va_G} {ad : Nat → Nat} {cI cO : ClassId} {P : Nat → U} {T : zRest} {S : zS} (hR : zR cu P T S) {q q2 : Nat} (hq : q < 14) (hq2 : q2 < 14) (hne : q ≠ q2) : zMv l yX2_copyOf cX2_copyOf 3 1 D (zTy cI cO) 419 ad [.ref (ad (q + 3)), .ref (ad (q2 + 3))] (gC ad cI cO S) (gC ad cI cO) (fun u => zR cu (pwn P q (fun i => P (13 * q2 + i)) 13) T u) := by
  refine z_gov zm_X2_copyOf (Nat.le_of_ble_eq_true rfl) [(0, .ref (ad (q + 3))), (1, .ref (ad (q2 + 3)))] rfl (fun p e s m args below meth c A Q X E => ?_)
  have loop : ∀ (n : Nat) (i : Int) (S1 : zS), i + n = 13 → 0 ≤ i → zR cu (pwn P q (fun i => P (13 * q2 + i)) i.toNat) T S1 → Z p l e (zRm 1) s m args below meth c 3 D 419 ad A 0 0 Q 2 [(2, .int (iZ (i))), (0, .ref (ad (q + 3))), (1, .ref (ad (q2 + 3)))] [] (gC ad cI cO S1) := by
    intro n
    induction n with
    | zero =>
      intro i S1 h1 h2 h3
      refine z_iload_n X 0 rfl rfl dX2_copyOf_2 ?_
      refine z_bipush X (n := 13) (by decide) dX2_copyOf_3 ?_
      refine z_icmp_ge X (tgt := 29) (by omega) (by omega) dX2_copyOf_5 (by decide) (fun hb5 => ?_) (fun hb5 => absurd hb5 (by omega))
      exact E S1 (by rw [show i.toNat = 13 by omega] at h3; exact h3) rfl dX2_copyOf_29
    | succ n ih =>
      intro i S1 h1 h2 h3
      refine z_iload_n X 0 rfl rfl dX2_copyOf_2 ?_
      refine z_bipush X (n := 13) (by decide) dX2_copyOf_3 ?_
      refine z_icmp_ge X (tgt := 29) (by omega) (by omega) dX2_copyOf_5 (by decide) (fun hb5 => absurd hb5 (by omega)) (fun hb5 => ?_)
      refine z_aload_n X 1 rfl rfl dX2_copyOf_8 ?_
      refine zp_rows X (by omega) dX2_copyOf_9 ?_
      refine z_iload_n X 0 rfl rfl dX2_copyOf_12 ?_
      refine zp_ald X (by omega) (by omega) (by omega) dX2_copyOf_13 ?_
      refine z_aload_n X 2 rfl rfl dX2_copyOf_14 ?_
      refine zp_rows X (by omega) dX2_copyOf_15 ?_
      refine z_iload_n X 0 rfl rfl dX2_copyOf_18 ?_
      refine zp_ald X (by omega) (by omega) (by omega) dX2_copyOf_19 ?_
      refine z_callVv X zm_X1_copyOf zw437 zw438 zw436 (zFit_of (by decide) (by decide)) [.ref (ad (13 * q2 + (i).toNat + 31))] (c_X1_copyOf HU l h3 (k := 13 * q + i.toNat) (k2 := 13 * q2 + i.toNat) (by omega) (by omega) (by omega)) rfl rfl (Nat.le_of_ble_eq_true rfl) (by omega) (gC_L (by omega)) (q := vwCl[3]) rfl rfl dX2_copyOf_20 (fun S2 hu => ?_)
      refine z_iinc X [(2, .int (iZ (i + 1))), (0, .ref (ad (q + 3))), (1, .ref (ad (q2 + 3)))] 0 rfl rfl (by decide) dX2_copyOf_23 ?_
      refine z_goto X (tgt := 2) dX2_copyOf_26 (by decide) ?_
      refine z_sub [0, 1, 2] rfl (ih (i + 1) S2 (by omega) (by omega) ?_)
      rw [pwn_out P q _ (by omega)] at hu
      rw [show (i + 1).toNat = i.toNat + 1 by omega, ← pwn_s]
      exact hu
  refine z_iconst X (n := 0) dX2_copyOf_0 ?_
  refine z_istore_n X [(2, .int (iZ (0))), (0, .ref (ad (q + 3))), (1, .ref (ad (q2 + 3)))] rfl rfl (by decide) dX2_copyOf_1 ?_
  exact z_sub [0, 1, 2] rfl (loop 13 0 S (by omega) (by omega) (by rw [show (0 : Int).toNat = 0 from rfl, pwn_0]; exact hR))
set_option maxHeartbeats 4000000 in
set_option maxRecDepth 100000 in
theorem c_X2_scale {U : Type} [Lean.Grind.CommRing U] {cu : U → Nat → FP} (HU : mp_P cu) (l : Launch) {D : va_G} {ad : Nat → Nat} {cI cO : ClassId} {P : Nat → U} {T : zRest} {S : zS} (hR : zR cu P T S) {q : Nat} (hq : q < 14) (x : FP) : zMv l yX2_scale cX2_scale 3 2 D (zTy cI cO) 419 ad [.ref (ad (q + 3)), .int (iZ (vz x))] (gC ad cI cO S) (gC ad cI cO) (fun u => zR cu (pwn P q (fun i => mp_C cu x * P (13 * q + i)) 13) T u) := by
  refine z_gov zm_X2_scale (Nat.le_of_ble_eq_true rfl) [(0, .ref (ad (q + 3))), (1, .int (iZ (vz x)))] rfl (fun p e s m args below meth c A Q X E => ?_)
  have loop : ∀ (n : Nat) (i : Int) (S1 : zS), i + n = 13 → 0 ≤ i → zR cu (pwn P q (fun i => mp_C cu x * P (13 * q + i)) i.toNat) T S1 → Z p l e (zRm 2) s m args below meth c 3 D 419 ad A 0 0 Q 2 [(2, .int (iZ (i))), (0, .ref (ad (q + 3))), (1, .int (iZ (vz x)))] [] (gC ad cI cO S1) := by
    intro n
    induction n with
    | zero =>
      intro i S1 h1 h2 h3
      refine z_iload_n X 0 rfl rfl dX2_scale_2 ?_
      refine z_bipush X (n := 13) (by decide) dX2_scale_3 ?_
      refine z_icmp_ge X (tgt := 24) (by omega) (by omega) dX2_scale_5 (by decide) (fun hb5 => ?_) (fun hb5 => absurd hb5 (by omega))
      exact E S1 (by rw [show i.toNat = 13 by omega] at h3; exact h3) rfl dX2_scale_24
    | succ n ih =>
      intro i S1 h1 h2 h3
      refine z_iload_n X 0 rfl rfl dX2_scale_2 ?_
      refine z_bipush X (n := 13) (by decide) dX2_scale_3 ?_
      refine z_icmp_ge X (tgt := 24) (by omega) (by omega) dX2_scale_5 (by decide) (fun hb5 => absurd hb5 (by omega)) (fun hb5 => ?_)
      refine z_aload_n X 1 rfl rfl dX2_scale_8 ?_
      refine zp_rows X (by omega) dX2_scale_9 ?_
      refine z_iload_n X 0 rfl rfl dX2_scale_12 ?_
      refine zp_ald X (by omega) (by omega) (by omega) dX2_scale_13 ?_
      refine z_iload_n X 2 rfl rfl dX2_scale_14 ?_
      refine z_callVv X zm_X1_scale zw452 zw453 zw451 (zFit_of (by decide) (by decide)) [.int (iZ (vz x))] (c_X1_scale HU l h3 (k := 13 * q + i.toNat) (by omega) x) rfl rfl (Nat.le_of_ble_eq_true rfl) (by omega) (gC_L (by omega)) (q := vwCl[3]) rfl rfl dX2_scale_15 (fun S2 hu => ?_)
      refine z_iinc X [(2, .int (iZ (i + 1))), (0, .ref (ad (q + 3))), (1, .int (iZ (vz x)))] 0 rfl rfl (by decide) dX2_scale_18 ?_
      refine z_goto X (tgt := 2) dX2_scale_21 (by decide) ?_
      refine z_sub [0, 1, 2] rfl (ih (i + 1) S2 (by omega) (by omega) ?_)
      rw [pwn_out P q _ (by omega)] at hu
      rw [show (i + 1).toNat = i.toNat + 1 by omega, ← pwn_s]
      exact hu
  refine z_iconst X (n := 0) dX2_scale_0 ?_
  refine z_istore_n X [(2, .int (iZ (0))), (0, .ref (ad (q + 3))), (1, .int (iZ (vz x)))] rfl rfl (by decide) dX2_scale_1 ?_
  exact z_sub [0, 1, 2] rfl (loop 13 0 S (by omega) (by omega) (by rw [show (0 : Int).toNat = 0 from rfl, pwn_0]; exact hR))
set_option maxHeartbeats 4000000 in
set_option maxRecDepth 100000 in
theorem c_X2_powerT {U A : Type} [Lean.Grind.CommRing U] [Lean.Grind.CommRing A] {cu : U → Nat → FP} {ca : A → Nat → U} (HU : mp_P cu) (HA : mp_P ca) (l : Launch) {D : va_G} {ad : Nat → Nat} {cI cO : ClassId} {P : Nat → U} {T : zRest} {S : zS} (hR : zR cu P T S) {q : Nat} (hq : q < 14) {a : A} (hv : zV ca P q a) : zMi l yX2_powerT cX2_powerT 2 (some .int) 0 D (zTy cI cO) 419 ad [.ref (ad (q + 3))] (gC ad cI cO S) (fun _ : Unit => gC ad cI cO S) (fun z _ => z = (mp_sz ca a : Int) - 1) := by
  refine z_goi zm_X2_powerT (Nat.le_of_ble_eq_true rfl) [(0, .ref (ad (q + 3)))] rfl (fun p e s m args below meth c A Q X E => ?_)
  have loop : ∀ (n : Nat) (i : Int), i + 1 = n → i < 13 → mp_sz ca a ≤ i + 1 → Z p l e (zRm 0) s m args below meth c 2 D 419 ad A 0 0 Q 3 [(1, .int (iZ (i))), (0, .ref (ad (q + 3)))] [] (gC ad cI cO S) := by
    intro n
    induction n with
    | zero =>
      intro i h1 h2 h3
      refine z_iload_n X 0 rfl rfl dX2_powerT_3 ?_
      refine z_if_lt X (tgt := 25) (by omega) dX2_powerT_4 (by decide) (fun hb4 => ?_) (fun hb4 => absurd hb4 (by omega))
      refine z_iload_n X 0 rfl rfl dX2_powerT_25 ?_
      exact E () (by omega) rfl dX2_powerT_26
    | succ n ih =>
      intro i h1 h2 h3
      have hsr := hR.2.2.2.2.1 (13 * q + i.toNat) (by omega)
      rw [hv.1 i.toNat (by omega)] at hsr
      refine z_iload_n X 0 rfl rfl dX2_powerT_3 ?_
      refine z_if_lt X (tgt := 25) (by omega) dX2_powerT_4 (by decide) (fun hb4 => absurd hb4 (by omega)) (fun hb4 => ?_)
      refine z_aload_n X 1 rfl rfl dX2_powerT_7 ?_
      refine zp_rows X (by omega) dX2_powerT_8 ?_
      refine z_iload_n X 0 rfl rfl dX2_powerT_11 ?_
      refine zp_ald X (by omega) (by omega) (by omega) dX2_powerT_12 ?_
      refine zl_degN X (by omega) ((mp_sz cu (ca a i.toNat) : Int) - 1) (by rw [← hv.1 i.toNat (by omega)]; exact hR.2.2.2.1 _ (by omega)) (List.mem_of_getElem? (i := 2) rfl) dX2_powerT_13 ?_
      refine z_if_ge X (tgt := 25) (by omega) dX2_powerT_16 (by decide) (fun hb16 => ?_) (fun hb16 => ?_)
      · refine z_iload_n X 0 rfl rfl dX2_powerT_25 ?_
        exact E () (by
          have h9 : ca a i.toNat ≠ 0 := fun z => by rw [(mp_sz_0 HU).mpr z] at hb16; omega
          have := mp_sz_lt HA h9
          omega) rfl dX2_powerT_26
      · refine z_iinc X [(1, .int (iZ (i + -1))), (0, .ref (ad (q + 3)))] 0 rfl rfl (by decide) dX2_powerT_19 ?_
        refine z_goto X (tgt := 3) dX2_powerT_22 (by decide) ?_
        refine ih (i + -1) (by omega) (by omega) ?_
        have h9 : ca a i.toNat = 0 := (mp_sz_0 HU).mp (by omega)
        have := mp_sz_le HA (a := a) (M := i.toNat) (fun j hj => by
          by_cases e : j = i.toNat
          · rw [e]; exact h9
          · exact mp_sz_out HA (by omega))
        omega
  refine z_bipush X (n := 12) (by decide) dX2_powerT_0 ?_
  refine z_istore_n X [(1, .int (iZ (12))), (0, .ref (ad (q + 3)))] rfl rfl (by decide) dX2_powerT_2 ?_
  have hs := hv.2
  exact loop 13 12 (by omega) (by omega) (by omega)
set_option maxHeartbeats 4000000 in
set_option maxRecDepth 100000 in
theorem c_X2_isZero {U A : Type} [Lean.Grind.CommRing U] [Lean.Grind.CommRing A] {cu : U → Nat → FP} {ca : A → Nat → U} (HU : mp_P cu) (HA : mp_P ca) (l : Launch) {D : va_G} {ad : Nat → Nat} {cI cO : ClassId} {P : Nat → U} {T : zRest} {S : zS} (hR : zR cu P T S) {q : Nat} (hq : q < 14) {a : A} (hv : zV ca P q a) : zMi l yX2_isZero cX2_isZero 1 (some .boolean) 1 D (zTy cI cO) 419 ad [.ref (ad (q + 3))] (gC ad cI cO S) (fun _ : Unit => gC ad cI cO S) (fun z _ => z = @ite Int (a = 0) (Classical.propDecidable _) 1 0) := by
  have hs := hv.2
  refine z_goz zm_X2_isZero (Nat.le_of_ble_eq_true rfl) [(0, .ref (ad (q + 3)))] rfl (fun p e s m args below meth c A Q X E => ?_)
  refine z_aload_n X 0 rfl rfl dX2_isZero_0 ?_
  refine z_callVi X zm_X2_powerT zw414 zw415 zw413 (zFit_of (by decide) (by decide)) [] (c_X2_powerT HU HA l hR hq hv) rfl rfl (Nat.le_of_ble_eq_true rfl) (by omega) (gC_P (by omega)) (q := vwCl[4]) rfl rfl dX2_isZero_1 (fun z _ hz => ?_)
  subst hz
  refine z_if_ge X (tgt := 11) (by omega) dX2_isZero_4 (by decide) (fun hb4 => ?_) (fun hb4 => ?_)
  · refine z_iconst X (n := 0) dX2_isZero_11 ?_
    exact E () (by omega) (by rw [if_neg (fun h => by have := (mp_sz_0 HA).mpr h; omega)]) rfl dX2_isZero_12
  · refine z_iconst X (n := 1) dX2_isZero_7 ?_
    refine z_goto X (tgt := 12) dX2_isZero_8 (by decide) ?_
    exact E () (by omega) (by rw [if_pos ((mp_sz_0 HA).mp (by omega))]) rfl dX2_isZero_12
set_option maxHeartbeats 4000000 in
set_option maxRecDepth 100000 in
theorem c_X2_powerX {U A : Type} [Lean.Grind.CommRing U] [Lean.Grind.CommRing A] {cu : U → Nat → FP} {ca : A → Nat → U} (HU : mp_P cu) (HA : mp_P ca) (l : Launch) {D : va_G} {ad : Nat → Nat} {cI cO : ClassId} {P : Nat → U} {T : zRest} {S : zS} (hR : zR cu P T S) {q : Nat} (hq : q < 14) {a : A} (hv : zV ca P q a) : zMi l yX2_powerX cX2_powerX 3 (some .int) 1 D (zTy cI cO) 419 ad [.ref (ad (q + 3))] (gC ad cI cO S) (fun _ : Unit => gC ad cI cO S) (fun z _ => z = (mp_xz cu ca a : Int) - 1) := by
  refine z_goi zm_X2_powerX (Nat.le_of_ble_eq_true rfl) [(0, .ref (ad (q + 3)))] rfl (fun p e s m args below meth c A Q X E => ?_)
  have loop : ∀ (n : Nat) (i h : Int), i + n = 13 → 0 ≤ i → -1 ≤ h → h < 52 → (∀ j : Nat, j < i → (mp_sz cu (ca a j) : Int) ≤ h + 1) → (h = -1 ∨ ∃ j : Nat, j < i ∧ (mp_sz cu (ca a j) : Int) = h + 1) → Z p l e (zRm 1) s m args below meth c 3 D 419 ad A 0 0 Q 4 [(2, .int (iZ (i))), (1, .int (iZ (h))), (0, .ref (ad (q + 3)))] [] (gC ad cI cO S) := by
    intro n
    induction n with
    | zero =>
      intro i h h1 h2 h3 h3b h4 h5
      refine z_iload_n X 0 rfl rfl dX2_powerX_4 ?_
      refine z_bipush X (n := 13) (by decide) dX2_powerX_5 ?_
      refine z_icmp_ge X (tgt := 30) (by omega) (by omega) dX2_powerX_7 (by decide) (fun hb7 => ?_) (fun hb7 => absurd hb7 (by omega))
      refine z_iload_n X 1 rfl rfl dX2_powerX_30 ?_
      exact E () (by
        have e1 := mp_xz_le HU HA (a := a) (N := (h + 1).toNat) (fun j => by
          by_cases hj : j < 13
          · have := h4 j (by omega); omega
          · rw [mp_sz_out HA (by have := hv.2; omega), (mp_sz_0 HU).mpr rfl]; omega)
        rcases h5 with h5 | ⟨j, hj, h5⟩
        · omega
        · have := mp_xz_row HU HA a j
          omega) rfl dX2_powerX_31
    | succ n ih =>
      intro i h h1 h2 h3 h3b h4 h5
      have hsr := hR.2.2.2.2.1 (13 * q + i.toNat) (by omega)
      rw [hv.1 i.toNat (by omega)] at hsr
      refine z_iload_n X 0 rfl rfl dX2_powerX_4 ?_
      refine z_bipush X (n := 13) (by decide) dX2_powerX_5 ?_
      refine z_icmp_ge X (tgt := 30) (by omega) (by omega) dX2_powerX_7 (by decide) (fun hb7 => absurd hb7 (by omega)) (fun hb7 => ?_)
      refine z_iload_n X 1 rfl rfl dX2_powerX_10 ?_
      refine z_aload_n X 2 rfl rfl dX2_powerX_11 ?_
      refine zp_rows X (by omega) dX2_powerX_12 ?_
      refine z_iload_n X 0 rfl rfl dX2_powerX_15 ?_
      refine zp_ald X (by omega) (by omega) (by omega) dX2_powerX_16 ?_
      refine zl_degN X (by omega) ((mp_sz cu (ca a i.toNat) : Int) - 1) (by rw [← hv.1 i.toNat (by omega)]; exact hR.2.2.2.1 _ (by omega)) (List.mem_of_getElem? (i := 2) rfl) dX2_powerX_17 ?_
      refine z_max X (by omega) (by omega) zw470 (Nat.le_of_ble_eq_true rfl) (Nat.le_of_ble_eq_true rfl) (Nat.le_refl _) (Nat.le_refl _) dX2_powerX_20 ?_
      obtain ⟨h9, hh9⟩ : ∃ h9 : Int, h9 = if h < (mp_sz cu (ca a i.toNat) : Int) - 1 then (mp_sz cu (ca a i.toNat) : Int) - 1 else h := ⟨_, rfl⟩
      rw [← hh9]
      have hc9 : (h < (mp_sz cu (ca a i.toNat) : Int) - 1 ∧ h9 = (mp_sz cu (ca a i.toNat) : Int) - 1) ∨ (¬ h < (mp_sz cu (ca a i.toNat) : Int) - 1 ∧ h9 = h) := by
        by_cases hc : h < (mp_sz cu (ca a i.toNat) : Int) - 1
        · rw [if_pos hc] at hh9; exact Or.inl ⟨hc, hh9⟩
        · rw [if_neg hc] at hh9; exact Or.inr ⟨hc, hh9⟩
      refine z_istore_n X [(1, .int (iZ (h9))), (2, .int (iZ (i))), (0, .ref (ad (q + 3)))] rfl rfl (by decide) dX2_powerX_23 ?_
      refine z_iinc X [(2, .int (iZ (i + 1))), (1, .int (iZ (h9))), (0, .ref (ad (q + 3)))] 1 rfl rfl (by decide) dX2_powerX_24 ?_
      refine z_goto X (tgt := 4) dX2_powerX_27 (by decide) ?_
      refine z_sub [0, 1, 2] rfl (ih (i + 1) h9 (by omega) (by omega) (by omega) (by omega) (fun j hj => ?_) ?_)
      · by_cases e : j = i.toNat
        · rw [e]; omega
        · have := h4 j (by omega); omega
      · rcases hc9 with ⟨g1, g2⟩ | ⟨g1, g2⟩
        · exact Or.inr ⟨i.toNat, by omega, by omega⟩
        · rcases h5 with h5 | ⟨j, hj, h5⟩
          · exact Or.inl (by omega)
          · exact Or.inr ⟨j, by omega, by omega⟩
  refine z_iconst X (n := -1) dX2_powerX_0 ?_
  refine z_istore_n X [(1, .int (iZ (-1))), (0, .ref (ad (q + 3)))] rfl rfl (by decide) dX2_powerX_1 ?_
  refine z_iconst X (n := 0) dX2_powerX_2 ?_
  refine z_istore_n X [(2, .int (iZ (0))), (1, .int (iZ (-1))), (0, .ref (ad (q + 3)))] rfl rfl (by decide) dX2_powerX_3 ?_
  exact z_sub [0, 1, 2] rfl (loop 13 0 (-1) (by omega) (by omega) (by omega) (by omega) (fun j hj => absurd hj (by omega)) (Or.inl rfl))
set_option maxHeartbeats 4000000 in
set_option maxRecDepth 100000 in
theorem c_X2_head {U A : Type} [Lean.Grind.CommRing U] [Lean.Grind.CommRing A] {cu : U → Nat → FP} {ca : A → Nat → U} (HU : mp_P cu) (HA : mp_P ca) (l : Launch) {D : va_G} {ad : Nat → Nat} {cI cO : ClassId} {P : Nat → U} {T : zRest} {S : zS} (hR : zR cu P T S) {q : Nat} (hq : q < 14) {a : A} (hv : zV ca P q a) : zMi l yX2_head cX2_head 2 (some .int) 1 D (zTy cI cO) 419 ad [.ref (ad (q + 3))] (gC ad cI cO S) (fun _ : Unit => gC ad cI cO S) (fun z _ => z = vz (mp_lc cu (mp_lc ca a))) := by
  have hs := hv.2
  obtain ⟨r, hr⟩ : ∃ r, r = mp_sz ca a - 1 := ⟨_, rfl⟩
  have hrow : P (13 * q + r) = mp_lc ca a := by rw [hv.1 r (by omega), hr, mp_lc]
  have hsr := hR.2.2.2.2.1 (13 * q + r) (by omega)
  rw [hrow] at hsr
  refine z_goi zm_X2_head (Nat.le_of_ble_eq_true rfl) [(0, .ref (ad (q + 3)))] rfl (fun p e s m args below meth c A Q X E => ?_)
  refine z_aload_n X 0 rfl rfl dX2_head_0 ?_
  refine z_aload_n X 0 rfl rfl dX2_head_1 ?_
  refine z_callVi X zm_X2_powerT zw414 zw415 zw413 (zFit_of (by decide) (by decide)) [] (c_X2_powerT HU HA l hR hq hv) rfl rfl (Nat.le_of_ble_eq_true rfl) (by omega) (gC_P (by omega)) (q := vwCl[4]) rfl rfl dX2_head_2 (fun z _ hz => ?_)
  subst hz
  refine z_callVr X zm_X2_row zw113 zw114 zw444 (zFit_of (by decide) (by decide)) [.int (iZ ((mp_sz ca a : Int) - 1))] (c_X2_row l S hq (i := (mp_sz ca a : Int) - 1) (by omega)) rfl rfl (Nat.le_of_ble_eq_true rfl) (by omega) (gC_P (by omega)) (q := vwCl[4]) rfl rfl dX2_head_5 (fun j _ hz2 => ?_)
  have hj : j = 13 * q + r + 31 := by
    rw [hz2]
    by_cases h0 : mp_sz ca a = 0
    · rw [if_pos (by omega)]; omega
    · rw [if_neg (by omega), if_pos (by omega)]; omega
  subst hj
  refine z_astore_n X [(1, .ref (ad (13 * q + r + 31))), (0, .ref (ad (q + 3)))] rfl rfl (by decide) dX2_head_8 ?_
  refine z_aload_n X 0 rfl rfl dX2_head_9 ?_
  refine z_aload_n X 0 rfl rfl dX2_head_10 ?_
  refine zl_degN X (by omega) ((mp_sz cu (mp_lc ca a) : Int) - 1) (by rw [← hrow]; exact hR.2.2.2.1 _ (by omega)) (List.mem_of_getElem? (i := 2) rfl) dX2_head_11 ?_
  refine z_callVi X zm_X1_get zw301 zw302 zw445 (zFit_of (by decide) (by decide)) [.int (iZ ((mp_sz cu (mp_lc ca a) : Int) - 1))] (c_X1_get HU l hR (k := 13 * q + r) (by omega) (i := (mp_sz cu (mp_lc ca a) : Int) - 1) (by omega)) rfl rfl (Nat.le_of_ble_eq_true rfl) (by omega) (gC_L (by omega)) (q := vwCl[3]) rfl rfl dX2_head_14 (fun z _ hz3 => ?_)
  have hz4 : z = vz (mp_lc cu (mp_lc ca a)) := by
    rw [hz3, hrow]
    by_cases h0 : mp_sz cu (mp_lc ca a) = 0
    · rw [if_neg (by omega), mp_lc, mp_sz_out HU (by omega)]; rfl
    · rw [if_pos (by omega), show ((mp_sz cu (mp_lc ca a) : Int) - 1).toNat = mp_sz cu (mp_lc ca a) - 1 by omega]; rfl
  exact E () hz4 rfl dX2_head_17
set_option maxHeartbeats 4000000 in
set_option maxRecDepth 100000 in
theorem c_X2_plusProduct {U A : Type} [Lean.Grind.CommRing U] [Lean.Grind.CommRing A] {cu : U → Nat → FP} {ca : A → Nat → U} (HU : mp_P cu) (HA : mp_P ca) (l : Launch) {D : va_G} {ad : Nat → Nat} {cI cO : ClassId} {P : Nat → U} {T : zRest} {S : zS} (hR : zR cu P T S) {q qa qb : Nat} (hq : q < 14) (hqa : qa < 14) (hqb : qb < 14) (hna : q ≠ qa) (hnb : q ≠ qb) {c0 a b : A} (hc : zV ca P q c0) (ha : zV ca P qa a) (hb : zV ca P qb b) (x : FP) (hfit : mp_sz ca a + mp_sz ca b ≤ 14) (hfx : mp_xz cu ca a + mp_xz cu ca b ≤ 53) : zMv l yX2_plusProduct cX2_plusProduct 8 2 D (zTy cI cO) 419 ad [.ref (ad (q + 3)), .ref (ad (qa + 3)), .ref (ad (qb + 3)), .int (iZ (vz x))] (gC ad cI cO S) (gC ad cI cO) (fun u => zR cu (pA ca P q (c0 + mp_C ca (mp_C cu x) * a * b)) T u) := by
  have hsa := ha.2
  have hsb := hb.2
  refine z_gov zm_X2_plusProduct (Nat.le_of_ble_eq_true rfl) [(0, .ref (ad (q + 3))), (1, .ref (ad (qa + 3))), (2, .ref (ad (qb + 3))), (3, .int (iZ (vz x)))] rfl (fun p e s m args below meth c A Q X E => ?_)
  have loop : ∀ (n : Nat) (i : Int) (S1 : zS) (lv : List (Nat × Value)) (ks : List Nat), i + n = mp_sz ca a → 0 ≤ i → zR cu (pA ca P q (c0 + mp_C ca (mp_C cu x) * pa_lo ca a i.toNat * b)) T S1 → lv_pick lv ks = [(6, .int (iZ (i))), (5, .int (iZ ((mp_sz ca b : Int) - 1))), (4, .int (iZ ((mp_sz ca a : Int) - 1))), (0, .ref (ad (q + 3))), (1, .ref (ad (qa + 3))), (2, .ref (ad (qb + 3))), (3, .int (iZ (vz x)))] → Z p l e (zRm 2) s m args below meth c 8 D 419 ad A 0 0 Q 15 lv [] (gC ad cI cO S1) := by
    intro n
    induction n with
    | zero =>
      intro i S1 lv ks h1 h2 h3 hlv
      refine z_sub ks hlv ?_
      refine z_iload X 0 rfl dX2_plusProduct_15 ?_
      refine z_iload X 2 rfl dX2_plusProduct_17 ?_
      refine z_icmp_gt X (tgt := 89) (by omega) (by omega) dX2_plusProduct_19 (by decide) (fun hb19 => ?_) (fun hb19 => absurd hb19 (by omega))
      exact E S1 (by rw [pa_lo_z HA (by omega)] at h3; exact h3) rfl dX2_plusProduct_89
    | succ n ih =>
      intro i S1 lv ks h1 h2 h3 hlv
      refine z_sub ks hlv ?_
      refine z_iload X 0 rfl dX2_plusProduct_15 ?_
      refine z_iload X 2 rfl dX2_plusProduct_17 ?_
      refine z_icmp_gt X (tgt := 89) (by omega) (by omega) dX2_plusProduct_19 (by decide) (fun hb19 => absurd hb19 (by omega)) (fun hb19 => ?_)
      refine z_iload X 0 rfl dX2_plusProduct_22 ?_
      refine z_bipush X (n := 13) (by decide) dX2_plusProduct_24 ?_
      refine z_icmp_ge X (tgt := 89) (by omega) (by omega) dX2_plusProduct_26 (by decide) (fun hb26 => absurd hb26 (by omega)) (fun hb26 => ?_)
      refine z_iconst X (n := 0) dX2_plusProduct_29 ?_
      refine z_istore X [(7, .int (iZ (0))), (6, .int (iZ (i))), (5, .int (iZ ((mp_sz ca b : Int) - 1))), (4, .int (iZ ((mp_sz ca a : Int) - 1))), (0, .ref (ad (q + 3))), (1, .ref (ad (qa + 3))), (2, .ref (ad (qb + 3))), (3, .int (iZ (vz x)))] rfl (by decide) dX2_plusProduct_30 ?_
      have inner : ∀ (n2 : Nat) (j : Int) (S2 : zS), j + n2 = mp_sz ca b → 0 ≤ j → zR cu (pA ca P q (c0 + mp_C ca (mp_C cu x) * pa_lo ca a i.toNat * b + mp_C ca (mp_C cu x) * mp_m ca (ca a i.toNat) i.toNat * pa_lo ca b j.toNat)) T S2 → Z p l e (zRm 2) s m args below meth c 8 D 419 ad A 0 0 Q 32 [(7, .int (iZ (j))), (6, .int (iZ (i))), (5, .int (iZ ((mp_sz ca b : Int) - 1))), (4, .int (iZ ((mp_sz ca a : Int) - 1))), (0, .ref (ad (q + 3))), (1, .ref (ad (qa + 3))), (2, .ref (ad (qb + 3))), (3, .int (iZ (vz x)))] [] (gC ad cI cO S2) := by
        intro n2
        induction n2 with
        | zero =>
          intro j S2 g1 g2 g3
          refine z_iload X 0 rfl dX2_plusProduct_32 ?_
          refine z_iload X 2 rfl dX2_plusProduct_34 ?_
          refine z_icmp_gt X (tgt := 83) (by omega) (by omega) dX2_plusProduct_36 (by decide) (fun hb36 => ?_) (fun hb36 => absurd hb36 (by omega))
          refine z_iinc X [(6, .int (iZ (i + 1))), (7, .int (iZ (j))), (5, .int (iZ ((mp_sz ca b : Int) - 1))), (4, .int (iZ ((mp_sz ca a : Int) - 1))), (0, .ref (ad (q + 3))), (1, .ref (ad (qa + 3))), (2, .ref (ad (qb + 3))), (3, .int (iZ (vz x)))] 1 rfl rfl (by decide) dX2_plusProduct_83 ?_
          refine z_goto X (tgt := 15) dX2_plusProduct_86 (by decide) ?_
          refine ih (i + 1) S2 _ [0, 2, 3, 4, 5, 6, 7] (by omega) (by omega) ?_ rfl
          rw [pa_lo_z HA (a := b) (k := j.toNat) (by omega)] at g3
          rw [show (i + 1).toNat = i.toNat + 1 by omega, pa_lo_s HA]
          clear ih
          have e1 : c0 + mp_C ca (mp_C cu x) * pa_lo ca a i.toNat * b + mp_C ca (mp_C cu x) * mp_m ca (ca a i.toNat) i.toNat * b = c0 + mp_C ca (mp_C cu x) * (pa_lo ca a i.toNat + mp_m ca (ca a i.toNat) i.toNat) * b := by grind
          rw [← e1]
          exact g3
        | succ n2 ih2 =>
          intro j S2 g1 g2 g3
          refine z_iload X 0 rfl dX2_plusProduct_32 ?_
          refine z_iload X 2 rfl dX2_plusProduct_34 ?_
          refine z_icmp_gt X (tgt := 83) (by omega) (by omega) dX2_plusProduct_36 (by decide) (fun hb36 => absurd hb36 (by omega)) (fun hb36 => ?_)
          refine z_iload X 1 rfl dX2_plusProduct_39 ?_
          refine z_iload X 0 rfl dX2_plusProduct_41 ?_
          refine z_iadd X dX2_plusProduct_43 ?_
          refine z_bipush X (n := 13) (by decide) dX2_plusProduct_44 ?_
          refine z_icmp_ge X (tgt := 83) (by omega) (by omega) dX2_plusProduct_46 (by decide) (fun hb46 => absurd hb46 (by omega)) (fun hb46 => ?_)
          refine z_aload_n X 4 rfl rfl dX2_plusProduct_49 ?_
          refine zp_rows X (by omega) dX2_plusProduct_50 ?_
          refine z_iload X 1 rfl dX2_plusProduct_53 ?_
          refine z_iload X 0 rfl dX2_plusProduct_55 ?_
          refine z_iadd X dX2_plusProduct_57 ?_
          refine zp_ald X (by omega) (by omega) (by omega) dX2_plusProduct_58 ?_
          refine z_aload_n X 5 rfl rfl dX2_plusProduct_59 ?_
          refine zp_rows X (by omega) dX2_plusProduct_60 ?_
          refine z_iload X 1 rfl dX2_plusProduct_63 ?_
          refine zp_ald X (by omega) (by omega) (by omega) dX2_plusProduct_65 ?_
          refine z_aload_n X 6 rfl rfl dX2_plusProduct_66 ?_
          refine zp_rows X (by omega) dX2_plusProduct_67 ?_
          refine z_iload X 0 rfl dX2_plusProduct_70 ?_
          refine zp_ald X (by omega) (by omega) (by omega) dX2_plusProduct_72 ?_
          refine z_iload_n X 7 rfl rfl dX2_plusProduct_73 ?_
          refine z_callVv X zm_X1_plusProduct zw406 zw407 zw417 (zFit_of (by decide) (by decide)) [.ref (ad (13 * qa + (i).toNat + 31)), .ref (ad (13 * qb + (j).toNat + 31)), .int (iZ (vz x))] (c_X1_plusProduct HU l g3 (k := 13 * q + (i + j).toNat) (a := 13 * qa + i.toNat) (b := 13 * qb + j.toNat) (by omega) (by omega) (by omega) (by omega) (by omega) x (by rw [pA_out ca P q _ (j := 13 * qa + i.toNat) (by omega), pA_out ca P q _ (j := 13 * qb + j.toNat) (by omega), ha.1 _ (by omega), hb.1 _ (by omega)]; have := mp_xz_row HU HA a i.toNat; have := mp_xz_row HU HA b j.toNat; omega)) rfl rfl (Nat.le_of_ble_eq_true rfl) (by omega) (gC_L (by omega)) (q := vwCl[3]) rfl rfl dX2_plusProduct_74 (fun S3 hu => ?_)
          rw [pA_out ca P q _ (j := 13 * qa + i.toNat) (by omega), pA_out ca P q _ (j := 13 * qb + j.toNat) (by omega), pA_in ca P q _ (by omega), ha.1 _ (by omega), hb.1 _ (by omega), pA_up HA P q _ (by omega)] at hu
          refine z_iinc X [(7, .int (iZ (j + 1))), (6, .int (iZ (i))), (5, .int (iZ ((mp_sz ca b : Int) - 1))), (4, .int (iZ ((mp_sz ca a : Int) - 1))), (0, .ref (ad (q + 3))), (1, .ref (ad (qa + 3))), (2, .ref (ad (qb + 3))), (3, .int (iZ (vz x)))] 0 rfl rfl (by decide) dX2_plusProduct_77 ?_
          refine z_goto X (tgt := 32) dX2_plusProduct_80 (by decide) ?_
          refine z_sub [0, 1, 2, 3, 4, 5, 6, 7] rfl (ih2 (j + 1) S3 (by omega) (by omega) ?_)
          rw [show (j + 1).toNat = j.toNat + 1 by omega, pa_lo_s HA]
          have e1 : mp_m ca (mp_C cu x * ca a i.toNat * ca b j.toNat) (i + j).toNat = mp_C ca (mp_C cu x) * mp_m ca (ca a i.toNat) i.toNat * mp_m ca (ca b j.toNat) j.toNat := by
            rw [mp_m_C HA, mp_m_mulm HA, show (i + j).toNat = i.toNat + j.toNat by omega]
          rw [e1] at hu
          clear ih ih2
          have e2 : c0 + mp_C ca (mp_C cu x) * pa_lo ca a i.toNat * b + mp_C ca (mp_C cu x) * mp_m ca (ca a i.toNat) i.toNat * pa_lo ca b j.toNat + mp_C ca (mp_C cu x) * mp_m ca (ca a i.toNat) i.toNat * mp_m ca (ca b j.toNat) j.toNat = c0 + mp_C ca (mp_C cu x) * pa_lo ca a i.toNat * b + mp_C ca (mp_C cu x) * mp_m ca (ca a i.toNat) i.toNat * (pa_lo ca b j.toNat + mp_m ca (ca b j.toNat) j.toNat) := by grind
          rw [← e2]
          exact hu
      refine z_sub [0, 1, 2, 3, 4, 5, 6, 7] rfl (inner (mp_sz ca b) 0 S1 (by omega) (by omega) ?_)
      rw [show (0 : Int).toNat = 0 from rfl, pa_lo_0 HA]
      clear ih inner
      have e1 : c0 + mp_C ca (mp_C cu x) * pa_lo ca a i.toNat * b + mp_C ca (mp_C cu x) * mp_m ca (ca a i.toNat) i.toNat * 0 = c0 + mp_C ca (mp_C cu x) * pa_lo ca a i.toNat * b := by grind
      rw [e1]
      exact h3
  refine z_aload_n X 1 rfl rfl dX2_plusProduct_0 ?_
  refine z_callVi X zm_X2_powerT zw414 zw415 zw413 (zFit_of (by decide) (by decide)) [] (c_X2_powerT HU HA l hR hqa ha) rfl rfl (Nat.le_of_ble_eq_true rfl) (by omega) (gC_P (by omega)) (q := vwCl[4]) rfl rfl dX2_plusProduct_1 (fun z _ hz => ?_)
  subst hz
  refine z_istore X [(4, .int (iZ ((mp_sz ca a : Int) - 1))), (0, .ref (ad (q + 3))), (1, .ref (ad (qa + 3))), (2, .ref (ad (qb + 3))), (3, .int (iZ (vz x)))] rfl (by decide) dX2_plusProduct_4 ?_
  refine z_aload_n X 3 rfl rfl dX2_plusProduct_6 ?_
  refine z_callVi X zm_X2_powerT zw414 zw415 zw413 (zFit_of (by decide) (by decide)) [] (c_X2_powerT HU HA l hR hqb hb) rfl rfl (Nat.le_of_ble_eq_true rfl) (by omega) (gC_P (by omega)) (q := vwCl[4]) rfl rfl dX2_plusProduct_7 (fun z _ hz => ?_)
  subst hz
  refine z_istore X [(5, .int (iZ ((mp_sz ca b : Int) - 1))), (4, .int (iZ ((mp_sz ca a : Int) - 1))), (0, .ref (ad (q + 3))), (1, .ref (ad (qa + 3))), (2, .ref (ad (qb + 3))), (3, .int (iZ (vz x)))] rfl (by decide) dX2_plusProduct_10 ?_
  refine z_iconst X (n := 0) dX2_plusProduct_12 ?_
  refine z_istore X [(6, .int (iZ (0))), (5, .int (iZ ((mp_sz ca b : Int) - 1))), (4, .int (iZ ((mp_sz ca a : Int) - 1))), (0, .ref (ad (q + 3))), (1, .ref (ad (qa + 3))), (2, .ref (ad (qb + 3))), (3, .int (iZ (vz x)))] rfl (by decide) dX2_plusProduct_13 ?_
  refine loop (mp_sz ca a) 0 S _ [0, 1, 2, 3, 4, 5, 6] (by omega) (by omega) ?_ rfl
  rw [show (0 : Int).toNat = 0 from rfl, pa_lo_0 HA]
  have e1 : c0 + mp_C ca (mp_C cu x) * 0 * b = c0 := by grind
  rw [e1, pA_self hc]
  exact hR
