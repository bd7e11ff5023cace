/-! a contract with a weaker end; the leaves over polynomials in two letters -/
theorem zMv_mono {S : Type} {l : Launch} {y : MethodName} {cc : ByteArray} {maxL lev : Nat} {D : va_G} {tys : List (ClassId × FieldType)} {N : Nat} {ad : Nat → Nat} {av : List Value} {g : Nat → va_E} {G : S → Nat → va_E} {post post9 : S → Prop} (h : zMv l y cc maxL lev D tys N ad av g G post) (k : ∀ u, post u → post9 u) : zMv l y cc maxL lev D tys N ad av g G post9 := by
  intro sz p e ha hc hk s m args below hf happ hp hk9
  obtain ⟨n, o, h1, h2, h3, ⟨⟨u, q1, q2, q3⟩, q4⟩, q5⟩ := h sz p e ha hc hk s m args below hf happ hp hk9
  exact ⟨n, o, h1, h2, h3, ⟨⟨u, q1, k u q2, q3⟩, q4⟩, q5⟩
theorem zMi_mono {S : Type} {l : Launch} {y : MethodName} {cc : ByteArray} {maxL lev : Nat} {ret : Option FieldType} {D : va_G} {tys : List (ClassId × FieldType)} {N : Nat} {ad : Nat → Nat} {av : List Value} {g : Nat → va_E} {G : S → Nat → va_E} {post post9 : Int → S → Prop} (h : zMi l y cc maxL ret lev D tys N ad av g G post) (k : ∀ z u, post z u → post9 z u) : zMi l y cc maxL ret lev D tys N ad av g G post9 := by
  intro sz p e ha hc hk s m args below hf happ hp hk9
  obtain ⟨n, o, h1, h2, h3, ⟨⟨r, u, q1, ⟨q2, q6⟩, q3⟩, q4⟩, q5⟩ := h sz p e ha hc hk s m args below hf happ hp hk9
  exact ⟨n, o, h1, h2, h3, ⟨⟨r, u, q1, ⟨q2, k u.1 u.2 q6⟩, q3⟩, q4⟩, q5⟩
section
variable {U V : Type}
def zbb [Lean.Grind.CommRing U] [Lean.Grind.CommRing V] (cu : U → Nat → FP) (ca : V → Nat → U) (s x : Nat) (a : V) : Prop := mp_sz ca a ≤ s ∧ mp_xz cu ca a ≤ x
theorem zbb_le [Lean.Grind.CommRing U] [Lean.Grind.CommRing V] {cu : U → Nat → FP} {ca : V → Nat → U} {s x s9 x9 : Nat} {a : V} (h : zbb cu ca s x a) (h1 : s ≤ s9) (h2 : x ≤ x9) : zbb cu ca s9 x9 a := ⟨Nat.le_trans h.1 h1, Nat.le_trans h.2 h2⟩
theorem mz_mulR {R W : Type} [Lean.Grind.CommRing R] [Lean.Grind.CommRing W] {cf : W → Nat → R} (H : mp_P cf) {a b : W} {n : Nat} (h : mp_sz cf a + mp_sz cf b ≤ n + 1) : mp_sz cf (a * b) ≤ n := by
  by_cases ha : mp_sz cf a = 0
  · rw [(mp_sz_0 H).mp ha, show (0 : W) * b = 0 by grind]
    exact mp_sz_le H (fun j _ => mp_zero H j)
  · by_cases hb : mp_sz cf b = 0
    · rw [(mp_sz_0 H).mp hb, show a * (0 : W) = 0 by grind]
      exact mp_sz_le H (fun j _ => mp_zero H j)
    · exact Nat.le_trans (mp_sz_mul_le H (m := mp_sz cf a - 1) (n := mp_sz cf b - 1) (by omega) (by omega)) (by omega)
theorem zbb_mul [Lean.Grind.CommRing U] [Lean.Grind.CommRing V] {cu : U → Nat → FP} {ca : V → Nat → U} (HU : mp_P cu) (HA : mp_P ca) {s x s1 x1 s9 x9 : Nat} {a b : V} (h : zbb cu ca s x a) (h1 : zbb cu ca s1 x1 b) (e1 : s + s1 ≤ s9 + 1) (e2 : x + x1 ≤ x9 + 1) : zbb cu ca s9 x9 (a * b) := by
  have q1 := h.1
  have q2 := h1.1
  have q3 : mp_sz (mp_sw cu ca) a ≤ x := h.2
  have q4 : mp_sz (mp_sw cu ca) b ≤ x1 := h1.2
  exact ⟨mz_mulR HA (a := a) (b := b) (n := s9) (by omega), mz_mulR (mp_sw_P HU HA) (a := a) (b := b) (n := x9) (by omega)⟩
theorem zbb_add [Lean.Grind.CommRing U] [Lean.Grind.CommRing V] {cu : U → Nat → FP} {ca : V → Nat → U} (HU : mp_P cu) (HA : mp_P ca) {s x : Nat} {a b : V} (h : zbb cu ca s x a) (h1 : zbb cu ca s x b) : zbb cu ca s x (a + b) := ⟨mp_sz_add HA h.1 h1.1, mp_sz_add (mp_sw_P HU HA) h.2 h1.2⟩
theorem zbb_sub [Lean.Grind.CommRing U] [Lean.Grind.CommRing V] {cu : U → Nat → FP} {ca : V → Nat → U} (HU : mp_P cu) (HA : mp_P ca) {s x : Nat} {a b : V} (h : zbb cu ca s x a) (h1 : zbb cu ca s x b) : zbb cu ca s x (a - b) := ⟨mp_sz_sub HA h.1 h1.1, mp_sz_sub (mp_sw_P HU HA) h.2 h1.2⟩
theorem zbb_x [Lean.Grind.CommRing U] [Lean.Grind.CommRing V] {cu : U → Nat → FP} {ca : V → Nat → U} (HU : mp_P cu) (HA : mp_P ca) {s x : Nat} {a : V} (h : zbb cu ca s x a) : zbb cu ca s x (md_x cu ca a) := ⟨mp_sz_le HA (fun r hr => by rw [md_x_cf HU HA, mp_sz_out HA (Nat.le_trans h.1 hr), md_0 HU]), mp_xz_le HU HA (fun r => by rw [md_x_cf HU HA]; exact mp_sz_le HU (fun n hn => by rw [md_cf HU, mp_sz_out HU (Nat.le_trans (Nat.le_trans (mp_xz_row HU HA a r) h.2) (by omega))]; grind))⟩
theorem zbb_d [Lean.Grind.CommRing U] [Lean.Grind.CommRing V] {cu : U → Nat → FP} {ca : V → Nat → U} (HU : mp_P cu) (HA : mp_P ca) {s x : Nat} {a : V} (h : zbb cu ca s x a) : zbb cu ca s x (md_d ca a) := ⟨mp_sz_le HA (fun r hr => by rw [md_cf HA, mp_sz_out HA (Nat.le_trans h.1 (by omega))]; grind), mp_xz_le HU HA (fun r => by
    rw [md_cf HA, mr_nR_C HU]
    exact mp_sz_le HU (fun n hn => by rw [mp_C_mul HU, mp_sz_out HU (Nat.le_trans (Nat.le_trans (mp_xz_row HU HA a _) h.2) hn)]; grind))⟩
theorem zbb_0 [Lean.Grind.CommRing U] [Lean.Grind.CommRing V] {cu : U → Nat → FP} {ca : V → Nat → U} (HU : mp_P cu) (HA : mp_P ca) : zbb cu ca 1 1 (0 : V) := ⟨mp_sz_le HA (fun r _ => mp_zero HA r), mp_xz_le HU HA (fun r => by rw [mp_zero HA]; exact mp_sz_le HU (fun n _ => mp_zero HU n))⟩
theorem zbb_1 [Lean.Grind.CommRing U] [Lean.Grind.CommRing V] {cu : U → Nat → FP} {ca : V → Nat → U} (HU : mp_P cu) (HA : mp_P ca) : zbb cu ca 1 1 (1 : V) := ⟨mp_sz_le HA (fun r hr => by rw [mp_one HA, if_neg (by omega)]), mp_xz_le HU HA (fun r => by
    rw [mp_one HA]
    split
    · exact mp_sz_le HU (fun n hn => by rw [mp_one HU, if_neg (by omega)])
    · exact mp_sz_le HU (fun n _ => mp_zero HU n))⟩
theorem zbb_CC [Lean.Grind.CommRing U] [Lean.Grind.CommRing V] {cu : U → Nat → FP} {ca : V → Nat → U} (HU : mp_P cu) (HA : mp_P ca) {s x : Nat} (r : FP) {a : V} (h : zbb cu ca s x a) : zbb cu ca s x (mp_C ca (mp_C cu r) * a) := by
  refine ⟨mp_sz_le HA (fun n hn => ?_), mp_xz_le HU HA (fun i => mp_sz_le HU (fun n hn => ?_))⟩
  · rw [mp_C_mul HA, mp_sz_out HA (Nat.le_trans h.1 hn)]; grind
  · rw [mp_CC_mul HU HA, mp_sz_out HU (Nat.le_trans (Nat.le_trans (mp_xz_row HU HA a i) h.2) hn)]; grind
/-- row x holds the line of F x -/
def zO [Lean.Grind.CommRing U] [Lean.Grind.CommRing V] (cu : U → Nat → FP) (ca : V → Nat → U) (F : Nat → V) (T : zTM) (M : zM) : Prop := zN cu (fun x => mk_K cu ca (F x)) T M ∧ ∀ x, zBx x → zbb cu ca 22 40 (F x)
theorem zO_up [Lean.Grind.CommRing U] [Lean.Grind.CommRing V] {cu : U → Nat → FP} {ca : V → Nat → U} {F : Nat → V} {T : zTM} {M : zM} {x : Nat} {a : V} (hb : ∀ x, zBx x → zbb cu ca 22 40 (F x)) (ha : zbb cu ca 22 40 a) (h : zN cu (va_up (fun x => mk_K cu ca (F x)) x (mk_K cu ca a)) T M) : zO cu ca (va_up F x a) T M := by
  have : (fun y => mk_K cu ca (va_up F x a y)) = va_up (fun x => mk_K cu ca (F x)) x (mk_K cu ca a) := funext fun y => by
    by_cases e : y = x
    · rw [e, va_up_self, va_up_self]
    · rw [va_up_ne _ _ e, va_up_ne _ _ e]
  refine ⟨by rw [this]; exact h, fun y hy => ?_⟩
  by_cases e : y = x
  · rw [e, va_up_self]; exact ha
  · rw [va_up_ne _ _ e]; exact hb y hy
theorem zO_sz [Lean.Grind.CommRing U] [Lean.Grind.CommRing V] {cu : U → Nat → FP} {ca : V → Nat → U} (HU : mp_P cu) (HA : mp_P ca) {a : V} (h : zbb cu ca 22 40 a) : mp_sz cu (mk_K cu ca a) ≤ 880 := mk_sz HU HA h.2 h.1
theorem zO_fa [Lean.Grind.CommRing U] [Lean.Grind.CommRing V] {cu : U → Nat → FP} {ca : V → Nat → U} (HU : mp_P cu) (HA : mp_P ca) {F : Nat → V} {T : zTM} {M : zM} (h : zO cu ca F T M) {x : Nat} (hx : zBx x) (f : Nat → FP) {a : V} (ha : zbb cu ca 22 40 a) (hf : ∀ j, j < 880 → f j = cu (mk_K cu ca a) j) : zO cu ca (va_up F x a) T (fa M x f) := zO_up h.2 ha (zN_fa h.1 hx f _ hf (zO_sz HU HA ha))
theorem zO_at [Lean.Grind.CommRing U] [Lean.Grind.CommRing V] {cu : U → Nat → FP} {ca : V → Nat → U} {F : Nat → V} {T : zTM} {M : zM} (h : zO cu ca F T M) {x : Nat} (hx : zBx x) : ∀ j, j < 880 → M.1 x j = cu (mk_K cu ca (F x)) j := fun _ hj => zN_at h.1 hx hj
theorem zO_code [Lean.Grind.CommRing U] [Lean.Grind.CommRing V] {cu : U → Nat → FP} {ca : V → Nat → U} {F : Nat → V} {T : zTM} {M : zM} (h : zO cu ca F T M) (z : Int) : zO cu ca F (T.1, T.2.1, z, T.2.2.2) (fcode M z) := ⟨zN_code h.1 z, h.2⟩
theorem zO_kind [Lean.Grind.CommRing U] [Lean.Grind.CommRing V] {cu : U → Nat → FP} {ca : V → Nat → U} {F : Nat → V} {T : zTM} {M : zM} (h : zO cu ca F T M) (z : Int) : zO cu ca F (T.1, T.2.1, T.2.2.1, T.2.2.2.1, z) (fkind M z) := ⟨zN_kind h.1 z, h.2⟩
theorem q_clear [Lean.Grind.CommRing U] [Lean.Grind.CommRing V] {cu : U → Nat → FP} {ca : V → Nat → U} (HU : mp_P cu) (HA : mp_P ca) (l : Launch) {D : va_G} {ad : Nat → Nat} {cI : ClassId} {F : Nat → V} {T : zTM} {M : zM} (hO : zO cu ca F T M) {x : Nat} (hx : zBx x) : zMv l yX4_clear cX4_clear 2 0 D (zTyM cI) 18 ad [.ref (ad x)] (gM ad cI M) (gM ad cI) (fun u => zO cu ca (va_up F x 0) T u) := zMv_mono (c_X4_clear l M (zBx_A hx)) (by
  rintro u ⟨f, rfl, hf⟩
  exact zO_fa HU HA hO hx f (zbb_le (zbb_0 HU HA) (by omega) (by omega)) (fun j hj => by rw [hf j hj, mk_0 HU HA, mp_zero HU]))
theorem q_copy [Lean.Grind.CommRing U] [Lean.Grind.CommRing V] {cu : U → Nat → FP} {ca : V → Nat → U} (HU : mp_P cu) (HA : mp_P ca) (l : Launch) {D : va_G} {ad : Nat → Nat} {cI : ClassId} {F : Nat → V} {T : zTM} {M : zM} (hO : zO cu ca F T M) {x y : Nat} (hx : zBx x) (hy : zBx y) (hxy : y ≠ x) : zMv l yX4_copy cX4_copy 3 0 D (zTyM cI) 18 ad [.ref (ad x), .ref (ad y)] (gM ad cI M) (gM ad cI) (fun u => zO cu ca (va_up F x (F y)) T u) := zMv_mono (c_X4_copy l M (zBx_A hx) (zBx_A hy) hxy) (by
  rintro u ⟨f, rfl, hf⟩
  exact zO_fa HU HA hO hx f (hO.2 y hy) (fun j hj => by rw [hf j hj, zO_at hO hy j hj]))
theorem q_plus1 [Lean.Grind.CommRing U] [Lean.Grind.CommRing V] {cu : U → Nat → FP} {ca : V → Nat → U} (HU : mp_P cu) (HA : mp_P ca) (l : Launch) {D : va_G} {ad : Nat → Nat} {cI : ClassId} {F : Nat → V} {T : zTM} {M : zM} (hO : zO cu ca F T M) {x y : Nat} (hx : zBx x) (hy : zBx y) (hxy : y ≠ x) : zMv l yX4_plus cX4_plus 4 1 D (zTyM cI) 18 ad [.ref (ad x), .ref (ad y), .int (iZ 1)] (gM ad cI M) (gM ad cI) (fun u => zO cu ca (va_up F x (F x + F y)) T u) := zMv_mono (c_X4_plus l M (zBx_A hx) (zBx_A hy) hxy (Or.inl rfl)) (by
  rintro u ⟨f, rfl, hf⟩
  exact zO_fa HU HA hO hx f (zbb_add HU HA (hO.2 x hx) (hO.2 y hy)) (fun j hj => by rw [hf j hj, zO_at hO hy j hj, zO_at hO hx j hj, mk_add HU HA, mp_add HU, mI_1]; grind))
theorem q_plusm [Lean.Grind.CommRing U] [Lean.Grind.CommRing V] {cu : U → Nat → FP} {ca : V → Nat → U} (HU : mp_P cu) (HA : mp_P ca) (l : Launch) {D : va_G} {ad : Nat → Nat} {cI : ClassId} {F : Nat → V} {T : zTM} {M : zM} (hO : zO cu ca F T M) {x y : Nat} (hx : zBx x) (hy : zBx y) (hxy : y ≠ x) : zMv l yX4_plus cX4_plus 4 1 D (zTyM cI) 18 ad [.ref (ad x), .ref (ad y), .int (iZ (-1))] (gM ad cI M) (gM ad cI) (fun u => zO cu ca (va_up F x (F x - F y)) T u) := zMv_mono (c_X4_plus l M (zBx_A hx) (zBx_A hy) hxy (Or.inr rfl)) (by
  rintro u ⟨f, rfl, hf⟩
  exact zO_fa HU HA hO hx f (zbb_sub HU HA (hO.2 x hx) (hO.2 y hy)) (fun j hj => by rw [hf j hj, zO_at hO hy j hj, zO_at hO hx j hj, mk_sub HU HA, mp_sub HU, mI_neg, mI_1]; grind))
theorem q_slope1 [Lean.Grind.CommRing U] [Lean.Grind.CommRing V] {cu : U → Nat → FP} {ca : V → Nat → U} (HU : mp_P cu) (HA : mp_P ca) (l : Launch) {D : va_G} {ad : Nat → Nat} {cI : ClassId} {F : Nat → V} {T : zTM} {M : zM} (hO : zO cu ca F T M) {x y : Nat} (hx : zBx x) (hy : zBx y) (hxy : y ≠ x) : zMv l yX4_slope cX4_slope 5 1 D (zTyM cI) 18 ad [.ref (ad x), .ref (ad y), .int (iZ 1)] (gM ad cI M) (gM ad cI) (fun u => zO cu ca (va_up F x (md_x cu ca (F y))) T u) := zMv_mono (c_X4_slope1 l M (zBx_A hx) (zBx_A hy) hxy) (by
  rintro u ⟨f, rfl, hf⟩
  exact zO_fa HU HA hO hx f (zbb_x HU HA (hO.2 y hy)) (fun j hj => by rw [hf j hj]; exact mk_x HU HA (hO.2 y hy).2 (zO_at hO hy) hj))
theorem q_slope40 [Lean.Grind.CommRing U] [Lean.Grind.CommRing V] {cu : U → Nat → FP} {ca : V → Nat → U} (HU : mp_P cu) (HA : mp_P ca) (l : Launch) {D : va_G} {ad : Nat → Nat} {cI : ClassId} {F : Nat → V} {T : zTM} {M : zM} (hO : zO cu ca F T M) {x y : Nat} (hx : zBx x) (hy : zBx y) (hxy : y ≠ x) : zMv l yX4_slope cX4_slope 5 1 D (zTyM cI) 18 ad [.ref (ad x), .ref (ad y), .int (iZ 40)] (gM ad cI M) (gM ad cI) (fun u => zO cu ca (va_up F x (md_d ca (F y))) T u) := zMv_mono (c_X4_slope40 l M (zBx_A hx) (zBx_A hy) hxy) (by
  rintro u ⟨f, rfl, hf⟩
  exact zO_fa HU HA hO hx f (zbb_d HU HA (hO.2 y hy)) (fun j hj => by rw [hf j hj]; exact mk_t HU HA (hO.2 y hy).2 (hO.2 y hy).1 (zO_at hO hy) hj))
theorem q_isNone [Lean.Grind.CommRing U] [Lean.Grind.CommRing V] {cu : U → Nat → FP} {ca : V → Nat → U} (HU : mp_P cu) (HA : mp_P ca) (l : Launch) {D : va_G} {ad : Nat → Nat} {cI : ClassId} {F : Nat → V} {T : zTM} {M : zM} (hO : zO cu ca F T M) {x : Nat} (hx : zBx x) : zMi l yX4_isNone cX4_isNone 3 (some .boolean) 0 D (zTyM cI) 18 ad [.ref (ad x)] (gM ad cI M) (fun _ : Unit => gM ad cI M) (fun z _ => (z = 1 ∧ F x = 0) ∨ (z = 0 ∧ F x ≠ 0)) := zMi_mono (c_X4_isNone l M (zBx_A hx)) (by
  intro z _ hz
  have e := (zno HU (zO_at hO hx) (zO_sz HU HA (hO.2 x hx))).trans (mk_ne HU HA (hO.2 x hx).2)
  by_cases h : F x = 0
  · rw [if_pos (e.mpr h)] at hz; exact Or.inl ⟨hz, h⟩
  · rw [if_neg (fun q => h (e.mp q))] at hz; exact Or.inr ⟨hz, h⟩)
theorem q_one [Lean.Grind.CommRing U] [Lean.Grind.CommRing V] {cu : U → Nat → FP} {ca : V → Nat → U} (HU : mp_P cu) (HA : mp_P ca) (l : Launch) {D : va_G} {ad : Nat → Nat} {cI : ClassId} {F : Nat → V} {T : zTM} {M : zM} (hO : zO cu ca F T M) {x : Nat} (hx : zBx x) : zMv l yX4_one cX4_one 2 1 D (zTyM cI) 18 ad [.ref (ad 0), .ref (ad x)] (gM ad cI M) (gM ad cI) (fun u => zO cu ca (va_up F x 1) T u) := zMv_mono (c_X4_one l M (zBx_A hx)) (by
  rintro u ⟨f, rfl, hf⟩
  exact zO_fa HU HA hO hx f (zbb_le (zbb_1 HU HA) (by omega) (by omega)) (fun j hj => by rw [hf j hj, mk_1 HU HA, mp_one HU]))
theorem q_multiply [Lean.Grind.CommRing U] [Lean.Grind.CommRing V] {cu : U → Nat → FP} {ca : V → Nat → U} (HU : mp_P cu) (HA : mp_P ca) (l : Launch) {D : va_G} {ad : Nat → Nat} {cI : ClassId} {F : Nat → V} {T : zTM} {M : zM} (hO : zO cu ca F T M) {x y z : Nat} (hx : zBx x) (hy : zBx y) (hz : zBx z) (hxy : y ≠ x) (hxz : z ≠ x) {s1 x1 s2 x2 : Nat} (b1 : zbb cu ca s1 x1 (F y)) (b2 : zbb cu ca s2 x2 (F z)) (hs : s1 + s2 ≤ 22) (hxx : x1 + x2 ≤ 41) : zMv l yX4_multiply cX4_multiply 7 1 D (zTyM cI) 18 ad [.ref (ad 0), .ref (ad x), .ref (ad y), .ref (ad z)] (gM ad cI M) (gM ad cI) (fun u => zO cu ca (va_up F x (F y * F z)) T u) := zMv_mono (c_X4_multiply HU l hO.1 hx hy hz hxy hxz (by
    have q1 := mk_sz HU HA (hO.2 y hy).2 b1.1
    have q2 := mk_sz HU HA (hO.2 z hz).2 b2.1
    show mp_sz cu (mk_K cu ca (F y)) + mp_sz cu (mk_K cu ca (F z)) ≤ 881
    omega)) (by
  intro u hu
  exact zO_up hO.2 (zbb_mul HU HA b1 b2 (by omega) (by omega)) (by rw [mk_mul HU HA]; exact hu))
theorem q_makeMonic [Lean.Grind.CommRing U] [Lean.Grind.CommRing V] {cu : U → Nat → FP} {ca : V → Nat → U} (HU : mp_P cu) (HA : mp_P ca) (l : Launch) {D : va_G} {ad : Nat → Nat} {cI : ClassId} {F : Nat → V} {T : zTM} {M : zM} (hO : zO cu ca F T M) {x : Nat} (hx : zBx x) : zMv l yX4_makeMonic cX4_makeMonic 5 1 D (zTyM cI) 18 ad [.ref (ad 0), .ref (ad x)] (gM ad cI M) (gM ad cI) (fun u => zO cu ca (va_up F x (mp_C ca (mp_C cu (mf_inv (mp_lc cu (mp_lc ca (F x))))) * F x)) T u) := zMv_mono (c_X4_makeMonic HU l hO.1 hx) (by
  intro u hu
  refine zO_up hO.2 (zbb_CC HU HA _ (hO.2 x hx)) ?_
  rw [mk_mul HU HA, mk_C HU HA]
  by_cases h : F x = 0
  · rw [h, mk_0 HU HA] at hu ⊢
    rw [show ∀ q : U, q * 0 = 0 from fun q => by grind] at hu ⊢
    exact hu
  · rw [← (mk_lc HU HA h (hO.2 x hx).2).2]
    exact hu)
theorem q_divide [Lean.Grind.CommRing U] [Lean.Grind.CommRing V] {cu : U → Nat → FP} {ca : V → Nat → U} (HU : mp_P cu) (HA : mp_P ca) (l : Launch) {D : va_G} {ad : Nat → Nat} {cI : ClassId} {F : Nat → V} {T : zTM} {M : zM} (hO : zO cu ca F T M) {y : Nat} (hy : zBx y) (hy7 : y ≠ 7) (hy10 : y ≠ 10) {wq : V} (hn : F y ≠ 0) (he : F 10 = F y * wq) (hw : zbb cu ca 22 40 wq) : zMv l yX4_divide cX4_divide 7 1 D (zTyM cI) 18 ad [.ref (ad 0), .ref (ad y)] (gM ad cI M) (gM ad cI) (fun u => zO cu ca (va_up (va_up F 7 wq) 10 wq) T u) := zMv_mono (c_X4_divide HU l hO.1 hy hy7 hy10 (wq := mk_K cu ca wq) (fun e => hn ((mk_ne HU HA (hO.2 y hy).2).mp e)) (by show mk_K cu ca (F 10) = mk_K cu ca (F y) * mk_K cu ca wq; rw [he, mk_mul HU HA])) (by
  intro u hu
  have e1 : (fun z => mk_K cu ca (va_up F 7 wq z)) = va_up (fun x => mk_K cu ca (F x)) 7 (mk_K cu ca wq) := funext fun z => by
    by_cases e : z = 7
    · rw [e, va_up_self, va_up_self]
    · rw [va_up_ne _ _ e, va_up_ne _ _ e]
  refine zO_up (fun z hz => ?_) hw (by rw [e1]; exact hu)
  by_cases e : z = 7
  · rw [e, va_up_self]; exact hw
  · rw [va_up_ne _ _ e]; exact hO.2 z hz)
theorem q_reduce [Lean.Grind.CommRing U] [Lean.Grind.CommRing V] {cu : U → Nat → FP} {ca : V → Nat → U} (HU : mp_P cu) (HA : mp_P ca) (l : Launch) {D : va_G} {ad : Nat → Nat} {cI : ClassId} {F : Nat → V} {T : zTM} {M : zM} (hO : zO cu ca F T M) (hb0 : F 11 ≠ 0) (ba : zbb cu ca 15 34 (F 10)) (bb : zbb cu ca 15 34 (F 11)) : zMi l yX4_reduce cX4_reduce 3 (some .boolean) 2 D (zTyM cI) 18 ad [.ref (ad 0)] (gM ad cI M) (gM ad cI) (fun z u => (z = 1 ∧ ∃ p q, zLow cu ca (F 10) (F 11) p q ∧ mk_box cu ca p ∧ mk_box cu ca q ∧ zO cu ca (va_up (va_up F 10 p) 11 q) T u) ∨ (z = 0 ∧ (∃ p q, zLow cu ca (F 10) (F 11) p q ∧ ¬ (mk_box cu ca p ∧ mk_box cu ca q)) ∧ zO cu ca F T u)) := zMi_mono (c_X4_reduce HU HA l hO.1 (a := F 10) (b := F 11) rfl rfl hb0 ba.2 bb.2 ba.1 bb.1) (by
  intro z u hu
  rcases hu with ⟨h1, p, q, h2, h3, h4, h5⟩ | ⟨h1, h2, h3⟩
  · refine Or.inl ⟨h1, p, q, h2, h3, h4, ?_⟩
    have e1 : (fun z => mk_K cu ca (va_up F 10 p z)) = va_up (fun x => mk_K cu ca (F x)) 10 (mk_K cu ca p) := funext fun z => by
      by_cases e : z = 10
      · rw [e, va_up_self, va_up_self]
      · rw [va_up_ne _ _ e, va_up_ne _ _ e]
    refine zO_up (fun z hz => ?_) ⟨Nat.le_trans h4.1 (by omega), Nat.le_trans h4.2 (by omega)⟩ (by rw [e1]; exact h5)
    by_cases e : z = 10
    · rw [e, va_up_self]; exact ⟨Nat.le_trans h3.1 (by omega), Nat.le_trans h3.2 (by omega)⟩
    · rw [va_up_ne _ _ e]; exact hO.2 z hz
  · exact Or.inr ⟨h1, h2, h3, hO.2⟩)
/-- an element's half, in the reference's rows -/
def mEl [Lean.Grind.CommRing U] [Lean.Grind.CommRing V] (cu : U → Nat → FP) (ca : V → Nat → U) (f : Nat → FP) (n : Int) (a : V) : Prop := (∀ k, k < 49 → f (49 * n.toNat + k) = cu (ca a (k / 7)) (k % 7)) ∧ mk_box cu ca a
theorem q_load [Lean.Grind.CommRing U] [Lean.Grind.CommRing V] {cu : U → Nat → FP} {ca : V → Nat → U} (HU : mp_P cu) (HA : mp_P ca) (l : Launch) {D : va_G} {ad : Nat → Nat} {cI : ClassId} {F : Nat → V} {T : zTM} {M : zM} (hO : zO cu ca F T M) {x r : Nat} (hx : zBx x) (hr : r = 1 ∨ r = 2) {h : Int} (h0 : 0 ≤ h) (h1 : h < 120) {a : V} (ha : mEl cu ca (M.1 r) h a) : zMv l yX4_load cX4_load 5 1 D (zTyM cI) 18 ad [.ref (ad 0), .ref (ad x), .ref (ad r), .int (iZ h)] (gM ad cI M) (gM ad cI) (fun u => zO cu ca (va_up F x a) T u) := zMv_mono (c_X4_load l M (zBx_A hx) hr h0 h1) (by
  rintro u ⟨f, rfl, hf⟩
  refine zO_fa HU HA hO hx f ⟨Nat.le_trans ha.2.1 (by omega), Nat.le_trans ha.2.2 (by omega)⟩ (fun j hj => ?_)
  rw [hf j hj, mk_cf' HU HA (Nat.le_trans ha.2.2 (by omega))]
  by_cases e : j / 40 < 7 ∧ j % 40 < 7
  · rw [if_pos e, ha.1 _ (by omega), show (7 * (j / 40) + j % 40) / 7 = j / 40 by omega, show (7 * (j / 40) + j % 40) % 7 = j % 40 by omega]
  · rw [if_neg e]
    by_cases e2 : j / 40 < 7
    · exact (mp_sz_out HU (Nat.le_trans (Nat.le_trans (mp_xz_row HU HA a _) ha.2.2) (by omega))).symm
    · rw [mp_sz_out HA (a := a) (n := j / 40) (Nat.le_trans ha.2.1 (by omega)), mp_zero HU])
end
