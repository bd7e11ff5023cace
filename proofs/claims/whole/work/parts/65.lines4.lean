/-! the reference's rows as polynomials in one letter -/
abbrev zBx (x : Nat) : Prop := (3 ≤ x ∧ x ≤ 11) ∨ x = 17
theorem zBx_A {x : Nat} (h : zBx x) : zA x := by unfold zA; unfold zBx at h; omega
theorem zBx_15 {x : Nat} (h : zBx x) : x ≠ 15 := by unfold zBx at h; omega
abbrev zTM : Type := (Nat → FP) × (Nat → FP) × Int × Int × Int
/-- what rows of 880 leave: elements, code, many, kind -/
def zTm (M : zM) : zTM := (M.1 1, M.1 2, M.2.2.1, M.2.2.2.1, M.2.2.2.2.1)
section
variable {U A : Type}
/-- row x holds P x -/
def zN [Lean.Grind.CommRing U] (cu : U → Nat → FP) (P : Nat → U) (T : zTM) (M : zM) : Prop := (∀ x, zBx x → (∀ j, j < 880 → M.1 x j = cu (P x) j) ∧ mp_sz cu (P x) ≤ 880) ∧ zTm M = T
theorem zN_fa [Lean.Grind.CommRing U] {cu : U → Nat → FP} {P : Nat → U} {T : zTM} {M : zM} (h : zN cu P T M) {x : Nat} (hx : zBx x) (f : Nat → FP) (q : U) (hf : ∀ j, j < 880 → f j = cu q j) (hq : mp_sz cu q ≤ 880) : zN cu (va_up P x q) T (fa M x f) := by
  refine ⟨fun y hy => ?_, ?_⟩
  · by_cases e : y = x
    · subst e
      rw [fa_at, va_up_self]
      exact ⟨hf, hq⟩
    · rw [fa_ne _ _ e, va_up_ne _ _ e]
      exact h.1 y hy
  · rw [← h.2]
    unfold zTm
    unfold zBx at hx
    rw [fa_ne _ _ (by omega), fa_ne _ _ (by omega)]
    rfl
theorem zN_mh [Lean.Grind.CommRing U] {cu : U → Nat → FP} {P : Nat → U} {T : zTM} {M u : zM} (h : zN cu P T M) (hr : mh_R M u) : zN cu P T u := by
  refine ⟨fun y hy => ?_, ?_⟩
  · unfold zBx at hy
    rw [hr.1 y (by omega) (by omega) (by omega) (by omega)]
    exact h.1 y hy
  · rw [← h.2]
    unfold zTm
    rw [hr.1 1 (by omega) (by omega) (by omega) (by omega), hr.1 2 (by omega) (by omega) (by omega) (by omega), hr.2.1, hr.2.2.1, hr.2.2.2]
theorem zN_code [Lean.Grind.CommRing U] {cu : U → Nat → FP} {P : Nat → U} {T : zTM} {M : zM} (h : zN cu P T M) (z : Int) : zN cu P (T.1, T.2.1, z, T.2.2.2) (fcode M z) := ⟨fun y hy => h.1 y hy, by rw [← h.2]; rfl⟩
theorem zN_many [Lean.Grind.CommRing U] {cu : U → Nat → FP} {P : Nat → U} {T : zTM} {M : zM} (h : zN cu P T M) (z : Int) : zN cu P (T.1, T.2.1, T.2.2.1, z, T.2.2.2.2) (fmany M z) := ⟨fun y hy => h.1 y hy, by rw [← h.2]; rfl⟩
theorem zN_kind [Lean.Grind.CommRing U] {cu : U → Nat → FP} {P : Nat → U} {T : zTM} {M : zM} (h : zN cu P T M) (z : Int) : zN cu P (T.1, T.2.1, T.2.2.1, T.2.2.2.1, z) (fkind M z) := ⟨fun y hy => h.1 y hy, by rw [← h.2]; rfl⟩
theorem zN_cols [Lean.Grind.CommRing U] {cu : U → Nat → FP} {P : Nat → U} {T : zTM} {M : zM} (h : zN cu P T M) (z : Int) : zN cu P T (fcols M z) := ⟨fun y hy => h.1 y hy, by rw [← h.2]; rfl⟩
theorem zN_at [Lean.Grind.CommRing U] {cu : U → Nat → FP} {P : Nat → U} {T : zTM} {M : zM} (h : zN cu P T M) {x : Nat} (hx : zBx x) {j : Nat} (hj : j < 880) : M.1 x j = cu (P x) j := (h.1 x hx).1 j hj
theorem zN_sz [Lean.Grind.CommRing U] {cu : U → Nat → FP} {P : Nat → U} {T : zTM} {M : zM} (h : zN cu P T M) {x : Nat} (hx : zBx x) : mp_sz cu (P x) ≤ 880 := (h.1 x hx).2
theorem zN_T [Lean.Grind.CommRing U] {cu : U → Nat → FP} {P : Nat → U} {T : zTM} {M : zM} (h : zN cu P T M) : zTm M = T := h.2
/-- where head stops -/
theorem zhd [Lean.Grind.CommRing U] {cu : U → Nat → FP} (HU : mp_P cu) {g : Nat → FP} {q : U} {z : Int} (hg : ∀ j, j < 880 → g j = cu q j) (hq : mp_sz cu q ≤ 880) (h : (z = -1 ∧ ∀ j, j < 880 → g j = 0) ∨ (0 ≤ z ∧ z < 880 ∧ g z.toNat ≠ 0 ∧ ∀ j : Nat, z < j → j < 880 → g j = 0)) : z = (mp_sz cu q : Int) - 1 := by
  rcases h with ⟨h1, h2⟩ | ⟨h1, h2, h3, h4⟩
  · have : mp_sz cu q ≤ 0 := mp_sz_le HU (fun n _ => by
      by_cases hn : n < 880
      · rw [← hg n hn]; exact h2 n hn
      · exact mp_sz_out HU (by omega))
    omega
  · have := mp_sz_eq HU (a := q) (n := z.toNat) (fun j hj => by
      by_cases hn : j < 880
      · rw [← hg j hn]; exact h4 j (by omega) hn
      · exact mp_sz_out HU (by omega)) (by rw [← hg _ (by omega)]; exact h3)
    omega
theorem zno [Lean.Grind.CommRing U] {cu : U → Nat → FP} (HU : mp_P cu) {g : Nat → FP} {q : U} (hg : ∀ j, j < 880 → g j = cu q j) (hq : mp_sz cu q ≤ 880) : (∀ j, j < 880 → g j = 0) ↔ q = 0 := by
  constructor
  · intro h
    exact mp_ext HU (fun n => by
      rw [mp_zero HU]
      by_cases hn : n < 880
      · rw [← hg n hn]; exact h n hn
      · exact mp_sz_out HU (by omega))
  · intro h j hj
    rw [hg j hj, h, mp_zero HU]
theorem mz_mul [Lean.Grind.CommRing U] {cu : U → Nat → FP} (HU : mp_P cu) {a b : U} {n : Nat} (h : mp_sz cu a + mp_sz cu b ≤ n + 1) : mp_sz cu (a * b) ≤ n := by
  by_cases ha : mp_sz cu a = 0
  · rw [(mp_sz_0 HU).mp ha, show (0 : U) * b = 0 by grind]
    exact mp_sz_le HU (fun j _ => mp_zero HU j)
  · by_cases hb : mp_sz cu b = 0
    · rw [(mp_sz_0 HU).mp hb, show a * (0 : U) = 0 by grind]
      exact mp_sz_le HU (fun j _ => mp_zero HU j)
    · exact Nat.le_trans (mp_sz_mul_le HU (m := mp_sz cu a - 1) (n := mp_sz cu b - 1) (by omega) (by omega)) (by omega)
/-- a product's number where both heads meet -/
theorem mz_top [Lean.Grind.CommRing U] {cu : U → Nat → FP} (HU : mp_P cu) {a b : U} {m n : Nat} (ha : ∀ j, m < j → cu a j = 0) (hb : ∀ j, n < j → cu b j = 0) : cu (a * b) (m + n) = cu a m * cu b n := by
  rw [mp_mul HU, mp_S_one (k := m) (by omega) (fun i hi hne => ?_), show m + n - m = n by omega]
  by_cases h : m < i
  · rw [ha i h]; grind
  · rw [hb (m + n - i) (by omega)]; grind
theorem fa_fa (M : zM) (x : Nat) (f g : Nat → FP) : fa (fa M x f) x g = fa M x g := by
  unfold fa
  refine Prod.ext (funext fun k => ?_) rfl
  by_cases e : k = x
  · rw [e]; simp only [va_up_self]
  · simp only [va_up_ne _ _ e]
/-! a polynomial in two letters as one line -/
theorem mk_add [Lean.Grind.CommRing U] [Lean.Grind.CommRing A] {cu : U → Nat → FP} {ca : A → Nat → U} (HU : mp_P cu) (HA : mp_P ca) (a b : A) : mk_K cu ca (a + b) = mk_K cu ca a + mk_K cu ca b := mp_e_add HA (mp_dom HU (mp_Fd_nz mp_FP)) _ a b
theorem mk_sub [Lean.Grind.CommRing U] [Lean.Grind.CommRing A] {cu : U → Nat → FP} {ca : A → Nat → U} (HU : mp_P cu) (HA : mp_P ca) (a b : A) : mk_K cu ca (a - b) = mk_K cu ca a - mk_K cu ca b := mp_e_sub HA (mp_dom HU (mp_Fd_nz mp_FP)) _ a b
theorem mk_mul [Lean.Grind.CommRing U] [Lean.Grind.CommRing A] {cu : U → Nat → FP} {ca : A → Nat → U} (HU : mp_P cu) (HA : mp_P ca) (a b : A) : mk_K cu ca (a * b) = mk_K cu ca a * mk_K cu ca b := mp_e_mul HA (mp_dom HU (mp_Fd_nz mp_FP)) _ a b
theorem mk_C [Lean.Grind.CommRing U] [Lean.Grind.CommRing A] {cu : U → Nat → FP} {ca : A → Nat → U} (HU : mp_P cu) (HA : mp_P ca) (r : U) : mk_K cu ca (mp_C ca r) = r := mp_e_C HA (mp_dom HU (mp_Fd_nz mp_FP)) _ r
theorem mk_0 [Lean.Grind.CommRing U] [Lean.Grind.CommRing A] {cu : U → Nat → FP} {ca : A → Nat → U} (HU : mp_P cu) (HA : mp_P ca) : mk_K cu ca 0 = 0 := mp_e_0 HA (mp_dom HU (mp_Fd_nz mp_FP)) _
theorem mk_1 [Lean.Grind.CommRing U] [Lean.Grind.CommRing A] {cu : U → Nat → FP} {ca : A → Nat → U} (HU : mp_P cu) (HA : mp_P ca) : mk_K cu ca 1 = 1 := mp_e_1 HA (mp_dom HU (mp_Fd_nz mp_FP)) _
theorem mk_cf' [Lean.Grind.CommRing U] [Lean.Grind.CommRing A] {cu : U → Nat → FP} {ca : A → Nat → U} (HU : mp_P cu) (HA : mp_P ca) {a : A} (h : mp_xz cu ca a ≤ 40) (j : Nat) : cu (mk_K cu ca a) j = cu (ca a (j / 40)) (j % 40) := mk_cf HU HA _ a (Nat.le_refl _) h j
theorem mk_ne [Lean.Grind.CommRing U] [Lean.Grind.CommRing A] {cu : U → Nat → FP} {ca : A → Nat → U} (HU : mp_P cu) (HA : mp_P ca) {a : A} (h : mp_xz cu ca a ≤ 40) : mk_K cu ca a = 0 ↔ a = 0 := by
  constructor
  · intro e
    refine mk_inj HU HA h (mp_xz_le HU HA (fun i => ?_)) (e.trans (mk_0 HU HA).symm)
    rw [mp_zero HA]
    exact mp_sz_le HU (fun j _ => mp_zero HU j)
  · intro e; rw [e, mk_0 HU HA]
theorem mk_lc [Lean.Grind.CommRing U] [Lean.Grind.CommRing A] {cu : U → Nat → FP} {ca : A → Nat → U} (HU : mp_P cu) (HA : mp_P ca) {a : A} (ha : a ≠ 0) (h : mp_xz cu ca a ≤ 40) : mp_sz cu (mk_K cu ca a) = 40 * (mp_sz ca a - 1) + mp_sz cu (mp_lc ca a) ∧ mp_lc cu (mk_K cu ca a) = mp_lc cu (mp_lc ca a) := by
  have p1 := mp_sz_pos HA ha
  have l1 := mp_lc_ne HA ha
  have p2 := mp_sz_pos HU l1
  have h1 : mp_sz cu (mp_lc ca a) ≤ 40 := Nat.le_trans (mp_xz_row HU HA a _) h
  have e1 : (40 * (mp_sz ca a - 1) + (mp_sz cu (mp_lc ca a) - 1)) / 40 = mp_sz ca a - 1 := by omega
  have e2 : (40 * (mp_sz ca a - 1) + (mp_sz cu (mp_lc ca a) - 1)) % 40 = mp_sz cu (mp_lc ca a) - 1 := by omega
  have hv : cu (mk_K cu ca a) (40 * (mp_sz ca a - 1) + (mp_sz cu (mp_lc ca a) - 1)) = mp_lc cu (mp_lc ca a) := by
    rw [mk_cf' HU HA h, e1, e2]
    rfl
  have hs := mp_sz_eq HU (a := mk_K cu ca a) (n := 40 * (mp_sz ca a - 1) + (mp_sz cu (mp_lc ca a) - 1)) (fun j hj => by
    rw [mk_cf' HU HA h]
    by_cases q : mp_sz ca a ≤ j / 40
    · rw [mp_sz_out HA q, mp_zero HU]
    · by_cases q2 : j / 40 = mp_sz ca a - 1
      · rw [q2]
        exact mp_sz_out HU (show mp_sz cu (mp_lc ca a) ≤ j % 40 by omega)
      · exact mp_sz_out HU (Nat.le_trans (Nat.le_trans (mp_xz_row HU HA a _) h) (by omega))) (by rw [hv]; exact mp_lc_ne HU l1)
  refine ⟨by omega, ?_⟩
  rw [mp_lc, hs, Nat.add_sub_cancel]
  exact hv
/-- slopes of lines -/
theorem mk_x [Lean.Grind.CommRing U] [Lean.Grind.CommRing A] {cu : U → Nat → FP} {ca : A → Nat → U} (HU : mp_P cu) (HA : mp_P ca) {a : A} (h : mp_xz cu ca a ≤ 40) {g : Nat → FP} (hg : ∀ j, j < 880 → g j = cu (mk_K cu ca a) j) {j : Nat} (hj : j < 880) : (if 0 < (j + 1) % 40 ∧ j + 1 < 880 then mf_n ((j + 1) % 40) * g (j + 1) else 0) = cu (mk_K cu ca (md_x cu ca a)) j := by
  have hx : mp_xz cu ca (md_x cu ca a) ≤ 40 := mp_xz_le HU HA (fun r => by rw [md_x_cf HU HA]; exact Nat.le_trans (md_sz HU (n := 39) (Nat.le_trans (mp_xz_row HU HA a r) h)) (by omega))
  rw [mk_cf' HU HA hx, md_x_cf HU HA, md_cf HU]
  by_cases e : 0 < (j + 1) % 40 ∧ j + 1 < 880
  · rw [if_pos e, hg _ e.2, mk_cf' HU HA h, mr_nR_FP, show (j + 1) / 40 = j / 40 by omega, show (j + 1) % 40 = j % 40 + 1 by omega]
  · rw [if_neg e, mp_sz_out HU (a := ca a (j / 40)) (n := j % 40 + 1) (Nat.le_trans (Nat.le_trans (mp_xz_row HU HA a _) h) (by omega))]
    grind
theorem mk_t [Lean.Grind.CommRing U] [Lean.Grind.CommRing A] {cu : U → Nat → FP} {ca : A → Nat → U} (HU : mp_P cu) (HA : mp_P ca) {a : A} (h : mp_xz cu ca a ≤ 40) (hs : mp_sz ca a ≤ 22) {g : Nat → FP} (hg : ∀ j, j < 880 → g j = cu (mk_K cu ca a) j) {j : Nat} (hj : j < 880) : (if 0 < (j + 40) / 40 ∧ j + 40 < 880 then mf_n ((j + 40) / 40) * g (j + 40) else 0) = cu (mk_K cu ca (md_d ca a)) j := by
  have hx : mp_xz cu ca (md_d ca a) ≤ 40 := mp_xz_le HU HA (fun r => by
    rw [md_cf HA, mr_nR_C HU]
    refine mp_sz_le HU (fun n hn => ?_)
    rw [mp_C_mul HU, mp_sz_out HU (Nat.le_trans (Nat.le_trans (mp_xz_row HU HA a _) h) hn)]
    grind)
  rw [mk_cf' HU HA hx, md_cf HA, mr_nR_C HU, mp_C_mul HU, mr_nR_FP]
  by_cases e : 0 < (j + 40) / 40 ∧ j + 40 < 880
  · rw [if_pos e, hg _ e.2, mk_cf' HU HA h, show (j + 40) / 40 = j / 40 + 1 by omega, show (j + 40) % 40 = j % 40 by omega]
  · rw [if_neg e, mp_sz_out HA (a := a) (n := j / 40 + 1) (by omega), mp_zero HU]
    grind
end
