theorem mf_pw_0 : ∀ (k r s : Nat), mf_pw k 0 r s = r
  | 0, _, _ => rfl
  | k + 1, r, s => by
    rw [mf_pw, if_neg (by decide), show 0 / 2 = 0 from rfl]
    exact mf_pw_0 k r _
theorem mf_mul_lt {a b : Nat} (ha : a < 32003) (hb : b < 32003) : a * b ≤ 1024128004 := Nat.mul_le_mul (Nat.le_of_lt_succ ha) (Nat.le_of_lt_succ hb)
set_option maxHeartbeats 4000000 in
set_option maxRecDepth 100000 in
/-- the inverse modulo 32003, 0 of 0 -/
theorem c_X3_inverse (l : Launch) {D : va_G} {tys : List (ClassId × FieldType)} {N : Nat} {ad : Nat → Nat} (g : Nat → va_E) (x : FP) : zMi l yX3_inverse cX3_inverse 4 (some .int) 0 D tys N ad [.int (iZ (vz x))] g (fun _ : Unit => g) (fun z _ => z = vz (mf_inv x)) := by
  refine z_goi zm_X3_inverse (Nat.le_of_ble_eq_true rfl) [(0, .int (iZ (vz x)))] rfl (fun p e s m args below meth c A Q X E => ?_)
  have loop : ∀ (k n r q : Nat), k ≤ 15 → n < 2 ^ k → r < 32003 → q < 32003 → mf_pw k n r q = mf_in x.val → Z p l e (zRm 0) s m args below meth c 4 D N ad A 0 0 Q 8 [(3, .int (iZ ((n : Int)))), (2, .int (iZ ((r : Int)))), (1, .int (iZ ((q : Int)))), (0, .int (iZ (vz x)))] [] g := by
    intro k
    induction k with
    | zero =>
      intro n r q hk hn hr hq he
      have hn0 : n = 0 := by simp at hn; omega
      subst hn0
      refine z_iload_n X 0 rfl rfl dX3_inverse_8 ?_
      refine z_if_le X (tgt := 42) (by omega) dX3_inverse_9 (by decide) (fun h9 => ?_) (fun h9 => absurd h9 (by omega))
      refine z_iload_n X 1 rfl rfl dX3_inverse_42 ?_
      exact E () (by show (r : Int) = ((mf_in x.val : Nat) : Int); rw [← he]; rfl) rfl dX3_inverse_43
    | succ k ih =>
      intro n r q hk hn hr hq he
      have hn2 : n < 32768 := Nat.lt_of_lt_of_le hn (Nat.pow_le_pow_right (by omega) hk)
      have hrq := mf_mul_lt hr hq
      have hqq := mf_mul_lt hq hq
      refine z_iload_n X 0 rfl rfl dX3_inverse_8 ?_
      refine z_if_le X (tgt := 42) (by omega) dX3_inverse_9 (by decide) (fun h9 => ?_) (fun h9 => ?_)
      · refine z_iload_n X 1 rfl rfl dX3_inverse_42 ?_
        exact E () (by show (r : Int) = ((mf_in x.val : Nat) : Int); rw [← he, show n = 0 by omega, mf_pw_0]) rfl dX3_inverse_43
      · refine z_iload_n X 0 rfl rfl dX3_inverse_12 ?_
        refine z_iconst X (n := 1) dX3_inverse_13 ?_
        refine z_iand1 X (by omega) dX3_inverse_14 ?_
        refine z_iconst X (n := 1) dX3_inverse_15 ?_
        refine z_icmp_ne X (tgt := 27) (by omega) (by omega) dX3_inverse_16 (by decide) (fun h16 => ?_) (fun h16 => ?_)
        · refine z_iload_n X 2 rfl rfl dX3_inverse_27 ?_
          refine z_iload_n X 2 rfl rfl dX3_inverse_28 ?_
          refine z_imul X dX3_inverse_29 ?_
          refine z_sipush X (n := 32003) (by decide) dX3_inverse_30 ?_
          refine z_irem X (by rw [← Int.natCast_mul]; omega) (by rw [← Int.natCast_mul]; omega) (by omega) (by omega) dX3_inverse_33 ?_
          refine z_istore_n X [(1, .int (iZ ((((q : Int)) * ((q : Int))) % 32003))), (3, .int (iZ ((n : Int)))), (2, .int (iZ ((r : Int)))), (0, .int (iZ (vz x)))] rfl rfl (by decide) dX3_inverse_34 ?_
          refine z_iload_n X 1 rfl rfl dX3_inverse_35 ?_
          refine z_iconst X (n := 1) dX3_inverse_36 ?_
          refine z_ishr1 X (by omega) dX3_inverse_37 ?_
          refine z_istore_n X [(3, .int (iZ (((n / 2 : Nat) : Int)))), (1, .int (iZ ((((q : Int)) * ((q : Int))) % 32003))), (2, .int (iZ ((r : Int)))), (0, .int (iZ (vz x)))] rfl rfl (by decide) dX3_inverse_38 ?_
          refine z_goto X (tgt := 8) dX3_inverse_39 (by decide) ?_
          have e2 : ((q : Int) * (q : Int)) % 32003 = ((q * q % 32003 : Nat) : Int) := by rw [← Int.natCast_mul]; omega
          rw [e2]
          refine z_sub [0, 2, 1, 3] rfl (ih (n / 2) r (q * q % 32003) (by omega) (by rw [Nat.pow_succ] at hn; omega) hr (Nat.mod_lt _ (by omega)) ?_)
          rw [mf_pw, if_neg (by omega)] at he
          exact he
        · refine z_iload_n X 1 rfl rfl dX3_inverse_19 ?_
          refine z_iload_n X 2 rfl rfl dX3_inverse_20 ?_
          refine z_imul X dX3_inverse_21 ?_
          refine z_sipush X (n := 32003) (by decide) dX3_inverse_22 ?_
          refine z_irem X (by rw [← Int.natCast_mul]; omega) (by rw [← Int.natCast_mul]; omega) (by omega) (by omega) dX3_inverse_25 ?_
          refine z_istore_n X [(2, .int (iZ ((((r : Int)) * ((q : Int))) % 32003))), (3, .int (iZ ((n : Int)))), (1, .int (iZ ((q : Int)))), (0, .int (iZ (vz x)))] rfl rfl (by decide) dX3_inverse_26 ?_
          refine z_iload_n X 2 rfl rfl dX3_inverse_27 ?_
          refine z_iload_n X 2 rfl rfl dX3_inverse_28 ?_
          refine z_imul X dX3_inverse_29 ?_
          refine z_sipush X (n := 32003) (by decide) dX3_inverse_30 ?_
          refine z_irem X (by rw [← Int.natCast_mul]; omega) (by rw [← Int.natCast_mul]; omega) (by omega) (by omega) dX3_inverse_33 ?_
          refine z_istore_n X [(1, .int (iZ ((((q : Int)) * ((q : Int))) % 32003))), (2, .int (iZ ((((r : Int)) * ((q : Int))) % 32003))), (3, .int (iZ ((n : Int)))), (0, .int (iZ (vz x)))] rfl rfl (by decide) dX3_inverse_34 ?_
          refine z_iload_n X 2 rfl rfl dX3_inverse_35 ?_
          refine z_iconst X (n := 1) dX3_inverse_36 ?_
          refine z_ishr1 X (by omega) dX3_inverse_37 ?_
          refine z_istore_n X [(3, .int (iZ (((n / 2 : Nat) : Int)))), (1, .int (iZ ((((q : Int)) * ((q : Int))) % 32003))), (2, .int (iZ ((((r : Int)) * ((q : Int))) % 32003))), (0, .int (iZ (vz x)))] rfl rfl (by decide) dX3_inverse_38 ?_
          refine z_goto X (tgt := 8) dX3_inverse_39 (by decide) ?_
          have e1 : ((r : Int) * (q : Int)) % 32003 = ((r * q % 32003 : Nat) : Int) := by rw [← Int.natCast_mul]; omega
          have e2 : ((q : Int) * (q : Int)) % 32003 = ((q * q % 32003 : Nat) : Int) := by rw [← Int.natCast_mul]; omega
          rw [e1, e2]
          refine z_sub [0, 2, 1, 3] rfl (ih (n / 2) (r * q % 32003) (q * q % 32003) (by omega) (by rw [Nat.pow_succ] at hn; omega) (Nat.mod_lt _ (by omega)) (Nat.mod_lt _ (by omega)) ?_)
          rw [mf_pw, if_pos (by omega)] at he
          exact he
  refine z_iload_n X 0 rfl rfl dX3_inverse_0 ?_
  refine z_istore_n X [(1, .int (iZ (vz x))), (0, .int (iZ (vz x)))] rfl rfl (by decide) dX3_inverse_1 ?_
  refine z_iconst X (n := 1) dX3_inverse_2 ?_
  refine z_istore_n X [(2, .int (iZ (1))), (1, .int (iZ (vz x))), (0, .int (iZ (vz x)))] rfl rfl (by decide) dX3_inverse_3 ?_
  refine z_sipush X (n := 32001) (by decide) dX3_inverse_4 ?_
  refine z_istore_n X [(3, .int (iZ (32001))), (2, .int (iZ (1))), (1, .int (iZ (vz x))), (0, .int (iZ (vz x)))] rfl rfl (by decide) dX3_inverse_7 ?_
  have hx := vz_lt x
  have hx0 := vz_nn x
  exact z_sub [0, 1, 2, 3] rfl (loop 15 32001 1 x.val (by omega) (by decide) (by decide) x.isLt rfl)
section
variable {U : Type}
/-- one number written anew -/
noncomputable def pu [Lean.Grind.CommRing U] (cu : U → Nat → FP) (q : U) (i : Nat) (v : FP) : U := q + mp_m cu (v - cu q i) i
theorem pu_cf [Lean.Grind.CommRing U] {cu : U → Nat → FP} (HU : mp_P cu) (q : U) (i : Nat) (v : FP) (j : Nat) : cu (pu cu q i v) j = if j = i then v else cu q j := by
  rw [pu, mp_add HU, mp_m_cf HU]
  split
  · next h => rw [h]; grind
  · grind
theorem zR_swap [Lean.Grind.CommRing U] {cu : U → Nat → FP} {P : Nat → U} {T : zRest} {S : zS} (h : zR cu P T S) {k k2 : Nat} (hk : k < 194) (hk2 : k2 < 194) (hne : k ≠ k2) : zR cu (va_up (va_up P k (P k2)) k2 (P k)) T (ud (ua (ud (ua S k2 (S.1 k)) k2 (S.2.2.1 k)) k (S.1 k2)) k (S.2.2.1 k2)) := by
  obtain ⟨g1, g2, g3, g4, g5, g6⟩ := h
  have a1 : ∀ i, (ud (ua (ud (ua S k2 (S.1 k)) k2 (S.2.2.1 k)) k (S.1 k2)) k (S.2.2.1 k2)).1 i = if i = k then S.1 k2 else if i = k2 then S.1 k else S.1 i := fun i => by
    show va_up (va_up S.1 k2 (S.1 k)) k (S.1 k2) i = _
    simp only [va_up]
  have a2 : ∀ i, (ud (ua (ud (ua S k2 (S.1 k)) k2 (S.2.2.1 k)) k (S.1 k2)) k (S.2.2.1 k2)).2.2.1 i = if i = k then S.2.2.1 k2 else if i = k2 then S.2.2.1 k else S.2.2.1 i := fun i => by
    show va_up (va_up S.2.2.1 k2 (S.2.2.1 k)) k (S.2.2.1 k2) i = _
    simp only [va_up]
  have a3 : ∀ i, va_up (va_up P k (P k2)) k2 (P k) i = if i = k then P k2 else if i = k2 then P k else P i := fun i => by
    simp only [va_up]
    by_cases h1 : i = k2
    · rw [if_pos h1, if_neg (by omega), if_pos h1]
    · rw [if_neg h1, if_neg h1]
  have hs : ∀ i, (ud (ua (ud (ua S k2 (S.1 k)) k2 (S.2.2.1 k)) k (S.1 k2)) k (S.2.2.1 k2)).2.1 i = S.2.1 i := fun i => rfl
  refine ⟨fun i hi => ?_, fun i j hi hj e => ?_, fun i hi j hj => ?_, fun i hi => ?_, fun i hi => ?_, g6⟩
  · rw [a1]; split
    · exact g1 k2 hk2
    · split
      · exact g1 k hk
      · exact g1 i hi
  · rw [a1, a1] at e
    have b1 := g2 i j hi hj
    have b2 := g2 i k hi hk
    have b3 := g2 i k2 hi hk2
    have b4 := g2 j k hj hk
    have b5 := g2 j k2 hj hk2
    have b6 := g2 k k2 hk hk2
    have hn1 : ¬ k = k2 := hne
    have hn2 : ¬ k2 = k := fun q => hne q.symm
    by_cases i1 : i = k <;> by_cases i2 : i = k2 <;> by_cases j1 : j = k <;> by_cases j2 : j = k2 <;> simp only [i1, i2, j1, j2, hn1, hn2, if_true, if_false] at e <;> first | omega | exact b1 e | (have := b2 e; omega) | (have := b3 e; omega) | (have := b4 e.symm; omega) | (have := b5 e.symm; omega) | (have := b6 e; omega) | (have := b6 e.symm; omega)
  · rw [hs, a1, a3]; split
    · exact g3 k2 hk2 j hj
    · split
      · exact g3 k hk j hj
      · exact g3 i hi j hj
  · rw [a2, a3]; split
    · exact g4 k2 hk2
    · split
      · exact g4 k hk
      · exact g4 i hi
  · rw [a3]; split
    · exact g5 k2 hk2
    · split
      · exact g5 k hk
      · exact g5 i hi
end
set_option maxHeartbeats 4000000 in
set_option maxRecDepth 100000 in
/-- what stands at i; 0 outside -/
theorem c_X1_get {U : Type} [Lean.Grind.CommRing U] {cu : U → Nat → FP} (HU : mp_P cu) (l : Launch) {D : va_G} {ad : Nat → Nat} {cI cO : ClassId} {P : Nat → U} {T : zRest} {S : zS} (hR : zR cu P T S) {k : Nat} (hk : k < 194) {i : Int} (hi : -2147483648 ≤ i ∧ i < 2147483648) : zMi l yX1_get cX1_get 2 (some .int) 0 D (zTy cI cO) 419 ad [.ref (ad (k + 31)), .int (iZ i)] (gC ad cI cO S) (fun _ : Unit => gC ad cI cO S) (fun z _ => z = if 0 ≤ i then vz (cu (P k) i.toNat) else 0) := by
  obtain ⟨r1, r2, r3, r4, r5, r6⟩ := id hR
  have ka := r1 k hk
  refine z_goi zm_X1_get (Nat.le_of_ble_eq_true rfl) [(0, .ref (ad (k + 31))), (1, .int (iZ i))] rfl (fun p e s m args below meth c A Q X E => ?_)
  refine z_iload_n X 1 rfl rfl dX1_get_0 ?_
  refine z_if_lt X (tgt := 22) (by omega) dX1_get_1 (by decide) (fun h1 => ?_) (fun h1 => ?_)
  · refine z_iconst X (n := 0) dX1_get_22 ?_
    exact E () (by
      by_cases hz : 0 ≤ i
      · rw [if_pos hz, mp_sz_out HU (by have := r5 k hk; omega)]; rfl
      · rw [if_neg hz]) rfl dX1_get_23
  · refine z_iload_n X 1 rfl rfl dX1_get_4 ?_
    refine z_aload_n X 0 rfl rfl dX1_get_5 ?_
    refine zl_nums X (by omega) (S.1 (k)) rfl dX1_get_6 ?_
    refine zl_len X (by omega) dX1_get_9 ?_
    refine z_icmp_ge X (tgt := 22) (by omega) (by omega) dX1_get_10 (by decide) (fun h10 => ?_) (fun h10 => ?_)
    · refine z_iconst X (n := 0) dX1_get_22 ?_
      exact E () (by
        by_cases hz : 0 ≤ i
        · rw [if_pos hz, mp_sz_out HU (by have := r5 k hk; omega)]; rfl
        · rw [if_neg hz]) rfl dX1_get_23
    · refine z_aload_n X 0 rfl rfl dX1_get_13 ?_
      refine zl_nums X (by omega) (S.1 (k)) rfl dX1_get_14 ?_
      refine z_iload_n X 1 rfl rfl dX1_get_17 ?_
      refine zl_ld X (by omega) (by omega) (by omega) (cu (P k) i.toNat) ((r3 k hk _ (by omega))) dX1_get_18 ?_
      refine z_goto X (tgt := 23) dX1_get_19 (by decide) ?_
      exact E () (by rw [if_pos (by omega)]) rfl dX1_get_23
theorem c_X1_getn {U : Type} [Lean.Grind.CommRing U] {cu : U → Nat → FP} (HU : mp_P cu) (l : Launch) {D : va_G} {ad : Nat → Nat} {cI cO : ClassId} {P : Nat → U} {T : zRest} {S : zS} (hR : zR cu P T S) {k : Nat} (hk : k < 194) {i : Int} (h0 : 0 ≤ i) (hi : i < 2147483648) : zMi l yX1_get cX1_get 2 (some .int) 0 D (zTy cI cO) 419 ad [.ref (ad (k + 31)), .int (iZ i)] (gC ad cI cO S) (fun _ : Unit => gC ad cI cO S) (fun z _ => z = vz (cu (P k) i.toNat)) := by
  have h := c_X1_get HU l (D := D) (ad := ad) (cI := cI) (cO := cO) hR hk (i := i) (by omega)
  rw [if_pos h0] at h
  exact h
set_option maxHeartbeats 4000000 in
set_option maxRecDepth 100000 in
/-- one number written -/
theorem c_X1_put {U : Type} [Lean.Grind.CommRing U] {cu : U → Nat → FP} (HU : mp_P cu) (l : Launch) {D : va_G} {ad : Nat → Nat} {cI cO : ClassId} {P : Nat → U} {T : zRest} {S : zS} (hR : zR cu P T S) {k : Nat} (hk : k < 194) {i : Int} (h0 : 0 ≤ i) (h1 : i < 52) (v : FP) : zMv l yX1_put cX1_put 4 0 D (zTy cI cO) 419 ad [.ref (ad (k + 31)), .int (iZ i), .int (iZ (vz v))] (gC ad cI cO S) (gC ad cI cO) (fun u => zR cu (va_up P k (pu cu (P k) i.toNat v)) T u) := by
  obtain ⟨r1, r2, r3, r4, r5, r6⟩ := id hR
  have ka := r1 k hk
  have hdg := r4 k hk
  have hsz := r5 k hk
  refine z_gov zm_X1_put (Nat.le_of_ble_eq_true rfl) [(0, .ref (ad (k + 31))), (1, .int (iZ i)), (2, .int (iZ (vz v)))] rfl (fun p e s m args below meth c A Q X E => ?_)
  obtain ⟨f, hf⟩ : ∃ f, f = va_up (S.2.1 (S.1 k)) i.toNat v := ⟨_, rfl⟩
  have hfj : ∀ j : Nat, f j = if j = i.toNat then v else S.2.1 (S.1 k) j := fun j => by rw [hf]; rfl
  have fin : ∀ z : Int, -1 ≤ z → z < 52 → (∀ j : Nat, z < j → j < 52 → f j = 0) → (0 ≤ z → f z.toNat ≠ 0) → Z p l e (zRm 0) s m args below meth c 4 D 419 ad A 0 0 Q 66 [(3, .int (iZ (z))), (0, .ref (ad (k + 31))), (1, .int (iZ (i))), (2, .int (iZ (vz v)))] [] (gC ad cI cO (uc S (S.1 k) f)) := by
    intro z h1 h2 h3 h4
    refine z_aload_n X 1 rfl rfl dX1_put_66 ?_
    refine z_iload_n X 0 rfl rfl dX1_put_67 ?_
    refine zl_pdeg X (by omega) dX1_put_68 ?_
    exact E _ (zR_line HU hR hk f z (pu cu (P k) i.toNat v) (fun j hj => by rw [hfj, pu_cf HU, r3 k hk j hj]) (fun j hj => by rw [pu_cf HU, if_neg (by omega)]; exact mp_sz_out HU (by omega)) h1 h3 (fun q => ⟨h2, h4 q⟩)) rfl dX1_put_71
  have loop : ∀ (n : Nat) (z : Int), z + 1 = n → z < 52 → (∀ j : Nat, z < j → j < 52 → f j = 0) → Z p l e (zRm 0) s m args below meth c 4 D 419 ad A 0 0 Q 38 [(3, .int (iZ (z))), (0, .ref (ad (k + 31))), (1, .int (iZ (i))), (2, .int (iZ (vz v)))] [] (gC ad cI cO (uc S (S.1 k) f)) := by
    intro n
    induction n with
    | zero =>
      intro z h1 h2 h3
      refine z_iload_n X 0 rfl rfl dX1_put_38 ?_
      refine z_if_lt X (tgt := 66) (by omega) dX1_put_39 (by decide) (fun h39 => ?_) (fun h39 => absurd h39 (by omega))
      exact fin z (by omega) h2 h3 (fun q => absurd q (by omega))
    | succ n ih =>
      intro z h1 h2 h3
      refine z_iload_n X 0 rfl rfl dX1_put_38 ?_
      refine z_if_lt X (tgt := 66) (by omega) dX1_put_39 (by decide) (fun h39 => absurd h39 (by omega)) (fun h39 => ?_)
      refine z_iload_n X 0 rfl rfl dX1_put_42 ?_
      refine z_aload_n X 1 rfl rfl dX1_put_43 ?_
      refine zl_nums X (by omega) (S.1 k) rfl dX1_put_44 ?_
      refine zl_len X (by omega) dX1_put_47 ?_
      refine z_icmp_ge X (tgt := 66) (by omega) (by omega) dX1_put_48 (by decide) (fun h48 => absurd h48 (by omega)) (fun h48 => ?_)
      refine z_aload_n X 1 rfl rfl dX1_put_51 ?_
      refine zl_nums X (by omega) (S.1 k) rfl dX1_put_52 ?_
      refine z_iload_n X 0 rfl rfl dX1_put_55 ?_
      refine zl_ld X (by omega) (by omega) (by omega) (f z.toNat) ((by simp only [uc, va_up_self])) dX1_put_56 ?_
      have hv1 := vz_nn (f z.toNat)
      have hv2 := vz_lt (f z.toNat)
      refine z_if_ne X (tgt := 66) (by omega) dX1_put_57 (by decide) (fun h57 => ?_) (fun h57 => ?_)
      · exact fin z (by omega) h2 h3 (fun _ q => h57 (by rw [q]; rfl))
      · refine z_iinc X [(3, .int (iZ (z + -1))), (0, .ref (ad (k + 31))), (1, .int (iZ (i))), (2, .int (iZ (vz v)))] 0 rfl rfl (by decide) dX1_put_60 ?_
        refine z_goto X (tgt := 38) dX1_put_63 (by decide) ?_
        refine ih (z + -1) (by omega) (by omega) (fun j hj hj2 => ?_)
        by_cases hz : z < j
        · exact h3 j hz hj2
        · have : j = z.toNat := by omega
          rw [this]
          exact vz_z.mp h57
  refine z_iload_n X 1 rfl rfl dX1_put_0 ?_
  refine z_if_lt X (tgt := 13) (by omega) dX1_put_1 (by decide) (fun h1 => absurd h1 (by omega)) (fun h1 => ?_)
  refine z_iload_n X 1 rfl rfl dX1_put_4 ?_
  refine z_aload_n X 0 rfl rfl dX1_put_5 ?_
  refine zl_nums X (by omega) (S.1 k) rfl dX1_put_6 ?_
  refine zl_len X (by omega) dX1_put_9 ?_
  refine z_icmp_lt X (tgt := 14) (by omega) (by omega) dX1_put_10 (by decide) (fun h10 => ?_) (fun h10 => absurd h10 (by omega))
  refine z_aload_n X 0 rfl rfl dX1_put_14 ?_
  refine zl_nums X (by omega) (S.1 k) rfl dX1_put_15 ?_
  refine z_iload_n X 1 rfl rfl dX1_put_18 ?_
  refine z_iload_n X 2 rfl rfl dX1_put_19 ?_
  refine zl_st X (by omega) (by omega) (by omega) (v) (rfl) (uc S (S.1 k) f) ((by rw [hf])) dX1_put_20 ?_
  refine z_iload_n X 1 rfl rfl dX1_put_21 ?_
  refine z_aload_n X 0 rfl rfl dX1_put_22 ?_
  refine zl_deg X (by omega) (S.2.2.1 k) rfl dX1_put_23 ?_
  refine z_icmp_le X (tgt := 33) (by omega) (by omega) dX1_put_26 (by decide) (fun h26 => ?_) (fun h26 => ?_)
  · refine z_aload_n X 0 rfl rfl dX1_put_33 ?_
    refine zl_deg X (by omega) (S.2.2.1 k) rfl dX1_put_34 ?_
    refine z_istore_n X [(3, .int (iZ (S.2.2.1 k))), (0, .ref (ad (k + 31))), (1, .int (iZ (i))), (2, .int (iZ (vz v)))] rfl rfl (by decide) dX1_put_37 ?_
    refine z_sub [0, 1, 2, 3] rfl (loop (S.2.2.1 k + 1).toNat (S.2.2.1 k) (by omega) (by omega) (fun j hj hj2 => ?_))
    rw [hfj, if_neg (by omega), r3 k hk j hj2]
    exact mp_sz_out HU (by omega)
  · refine z_iload_n X 1 rfl rfl dX1_put_29 ?_
    refine z_goto X (tgt := 37) dX1_put_30 (by decide) ?_
    refine z_istore_n X [(3, .int (iZ (i))), (0, .ref (ad (k + 31))), (1, .int (iZ (i))), (2, .int (iZ (vz v)))] rfl rfl (by decide) dX1_put_37 ?_
    refine z_sub [0, 1, 2, 3] rfl (loop (i + 1).toNat (i) (by omega) (by omega) (fun j hj hj2 => ?_))
    rw [hfj, if_neg (by omega), r3 k hk j hj2]
    exact mp_sz_out HU (by omega)
theorem uc_uc {S : zS} {a i : Nat} {f : Nat → FP} {v : FP} : uc (uc S a f) a (va_up ((uc S a f).2.1 a) i v) = uc S a (va_up f i v) := by
  simp only [uc, va_up_self]
  congr 2
  funext q
  by_cases h : q = a
  · rw [h, va_up_self, va_up_self]
  · rw [va_up_ne _ _ h, va_up_ne _ _ h, va_up_ne _ _ h]
theorem uc_self {ad : Nat → Nat} {cI cO : ClassId} {S : zS} {a : Nat} : gC ad cI cO S = gC ad cI cO (uc S a (S.2.1 a)) := by
  have : uc S a (S.2.1 a) = S := by
    simp only [uc]
    have h : va_up S.2.1 a (S.2.1 a) = S.2.1 := by
      funext q
      by_cases h : q = a
      · rw [h, va_up_self]
      · rw [va_up_ne _ _ h]
    rw [h]
  rw [this]
set_option maxHeartbeats 4000000 in
set_option maxRecDepth 100000 in
theorem c_X1_clear {U : Type} [Lean.Grind.CommRing U] {cu : U → Nat → FP} (HU : mp_P cu) (l : Launch) {D : va_G} {ad : Nat → Nat} {cI cO : ClassId} {P : Nat → U} {T : zRest} {S : zS} (hR : zR cu P T S) {k : Nat} (hk : k < 194) : zMv l yX1_clear cX1_clear 2 0 D (zTy cI cO) 419 ad [.ref (ad (k + 31))] (gC ad cI cO S) (gC ad cI cO) (fun u => zR cu (va_up P k 0) T u) := by
  obtain ⟨r1, r2, r3, r4, r5, r6⟩ := id hR
  have ka := r1 k hk
  have hdg := r4 k hk
  have hsz := r5 k hk
  refine z_gov zm_X1_clear (Nat.le_of_ble_eq_true rfl) [(0, .ref (ad (k + 31)))] rfl (fun p e s m args below meth c A Q X E => ?_)
  have loop : ∀ (n : Nat) (i : Int) (f : Nat → FP), i + n = mp_sz cu (P k) → 0 ≤ i → (∀ j : Nat, (j < i ∨ mp_sz cu (P k) ≤ j) → j < 52 → f j = 0) → Z p l e (zRm 0) s m args below meth c 2 D 419 ad A 0 0 Q 2 [(1, .int (iZ (i))), (0, .ref (ad (k + 31)))] [] (gC ad cI cO (uc S (S.1 k) f)) := by
    intro n
    induction n with
    | zero =>
      intro i f h1 h2 h3
      refine z_iload_n X 0 rfl rfl dX1_clear_2 ?_
      refine z_aload_n X 1 rfl rfl dX1_clear_3 ?_
      refine zl_deg X (by omega) (S.2.2.1 k) rfl dX1_clear_4 ?_
      refine z_icmp_gt X (tgt := 32) (by omega) (by omega) dX1_clear_7 (by decide) (fun h7 => ?_) (fun h7 => absurd h7 (by omega))
      refine z_aload_n X 1 rfl rfl dX1_clear_32 ?_
      refine z_iconst X (n := -1) dX1_clear_33 ?_
      refine zl_pdeg X (by omega) dX1_clear_34 ?_
      exact E _ (zR_line HU hR hk f (-1) 0 (fun j hj => by rw [mp_zero HU]; exact h3 j (by omega) hj) (fun j _ => mp_zero HU j) (by omega) (fun j _ hj => h3 j (by omega) hj) (fun q => absurd q (by omega))) rfl dX1_clear_37
    | succ n ih =>
      intro i f h1 h2 h3
      refine z_iload_n X 0 rfl rfl dX1_clear_2 ?_
      refine z_aload_n X 1 rfl rfl dX1_clear_3 ?_
      refine zl_deg X (by omega) (S.2.2.1 k) rfl dX1_clear_4 ?_
      refine z_icmp_gt X (tgt := 32) (by omega) (by omega) dX1_clear_7 (by decide) (fun h7 => absurd h7 (by omega)) (fun h7 => ?_)
      refine z_iload_n X 0 rfl rfl dX1_clear_10 ?_
      refine z_aload_n X 1 rfl rfl dX1_clear_11 ?_
      refine zl_nums X (by omega) (S.1 k) rfl dX1_clear_12 ?_
      refine zl_len X (by omega) dX1_clear_15 ?_
      refine z_icmp_ge X (tgt := 32) (by omega) (by omega) dX1_clear_16 (by decide) (fun h16 => absurd h16 (by omega)) (fun h16 => ?_)
      refine z_aload_n X 1 rfl rfl dX1_clear_19 ?_
      refine zl_nums X (by omega) (S.1 k) rfl dX1_clear_20 ?_
      refine z_iload_n X 0 rfl rfl dX1_clear_23 ?_
      refine z_iconst X (n := 0) dX1_clear_24 ?_
      refine zl_st X (by omega) (by omega) (by omega) (0) (rfl) (uc S (S.1 k) (va_up f i.toNat 0)) (uc_uc) dX1_clear_25 ?_
      refine z_iinc X [(1, .int (iZ (i + 1))), (0, .ref (ad (k + 31)))] 0 rfl rfl (by decide) dX1_clear_26 ?_
      refine z_goto X (tgt := 2) dX1_clear_29 (by decide) ?_
      refine ih (i + 1) (va_up f i.toNat 0) (by omega) (by omega) (fun j hj hj2 => ?_)
      by_cases hz : j = i.toNat
      · rw [hz, va_up_self]
      · rw [va_up_ne _ _ hz]; exact h3 j (by omega) hj2
  refine z_iconst X (n := 0) dX1_clear_0 ?_
  refine z_istore_n X [(1, .int (iZ (0))), (0, .ref (ad (k + 31)))] rfl rfl (by decide) dX1_clear_1 ?_
  refine z_eqg (uc_self (S := S) (a := S.1 k)) ?_
  exact loop (mp_sz cu (P k)) 0 (S.2.1 (S.1 k)) (by omega) (by omega) (fun j hj hj2 => by rw [r3 k hk j hj2]; exact mp_sz_out HU (by omega))
set_option maxHeartbeats 4000000 in
set_option maxRecDepth 100000 in
theorem c_X1_copyOf {U : Type} [Lean.Grind.CommRing U] {cu : U → Nat → FP} (HU : mp_P cu) (l : Launch) {D : va_G} {ad : Nat → Nat} {cI cO : ClassId} {P : Nat → U} {T : zRest} {S : zS} (hR : zR cu P T S) {k k2 : Nat} (hk : k < 194) (hk2 : k2 < 194) (hne : k ≠ k2) : zMv l yX1_copyOf cX1_copyOf 4 0 D (zTy cI cO) 419 ad [.ref (ad (k + 31)), .ref (ad (k2 + 31))] (gC ad cI cO S) (gC ad cI cO) (fun u => zR cu (va_up P k (P k2)) T u) := by
  obtain ⟨r1, r2, r3, r4, r5, r6⟩ := id hR
  have ka := r1 k hk
  have ka2 := r1 k2 hk2
  have hdg := r4 k hk
  have hsz := r5 k hk
  have hdg2 := r4 k2 hk2
  have hsz2 := r5 k2 hk2
  have hna : S.1 k2 ≠ S.1 k := fun q => hne (r2 k2 k hk2 hk q).symm
  refine z_gov zm_X1_copyOf (Nat.le_of_ble_eq_true rfl) [(0, .ref (ad (k + 31))), (1, .ref (ad (k2 + 31)))] rfl (fun p e s m args below meth c A Q X E => ?_)
  have loop : ∀ (n : Nat) (i t : Int) (f : Nat → FP), i + n = t + 1 → 0 ≤ i → t < 52 → S.2.2.1 k ≤ t → S.2.2.1 k2 ≤ t → (∀ j : Nat, j < 52 → f j = if j < i then cu (P k2) j else cu (P k) j) → Z p l e (zRm 0) s m args below meth c 4 D 419 ad A 0 0 Q 25 [(3, .int (iZ (i))), (2, .int (iZ (t))), (0, .ref (ad (k + 31))), (1, .ref (ad (k2 + 31)))] [] (gC ad cI cO (uc S (S.1 k) f)) := by
    intro n
    induction n with
    | zero =>
      intro i t f h1 h2 h3 h4 h5 h6
      refine z_iload_n X 0 rfl rfl dX1_copyOf_25 ?_
      refine z_iload_n X 1 rfl rfl dX1_copyOf_26 ?_
      refine z_icmp_gt X (tgt := 66) (by omega) (by omega) dX1_copyOf_27 (by decide) (fun h27 => ?_) (fun h27 => absurd h27 (by omega))
      refine z_aload_n X 2 rfl rfl dX1_copyOf_66 ?_
      refine z_aload_n X 3 rfl rfl dX1_copyOf_67 ?_
      refine zl_deg X (by omega) (S.2.2.1 k2) rfl dX1_copyOf_68 ?_
      refine zl_pdeg X (by omega) dX1_copyOf_71 ?_
      exact E _ (zR_line HU hR hk f (S.2.2.1 k2) (P k2) (fun j hj => by
        rw [h6 j hj]
        by_cases hz : (j : Int) < i
        · rw [if_pos hz]
        · rw [if_neg hz, mp_sz_out HU (by omega), mp_sz_out HU (by omega)]) (fun j hj => mp_sz_out HU (by omega)) (by omega) (fun j hj hj2 => by
        rw [h6 j hj2]
        by_cases hz : (j : Int) < i
        · rw [if_pos hz, mp_sz_out HU (by omega)]
        · rw [if_neg hz, mp_sz_out HU (by omega)]) (fun q => ⟨by omega, by
          rw [h6 _ (by omega), if_pos (by omega)]
          exact mp_sz_top HU (by omega)⟩)) rfl dX1_copyOf_74
    | succ n ih =>
      intro i t f h1 h2 h3 h4 h5 h6
      refine z_iload_n X 0 rfl rfl dX1_copyOf_25 ?_
      refine z_iload_n X 1 rfl rfl dX1_copyOf_26 ?_
      refine z_icmp_gt X (tgt := 66) (by omega) (by omega) dX1_copyOf_27 (by decide) (fun h27 => absurd h27 (by omega)) (fun h27 => ?_)
      refine z_iload_n X 0 rfl rfl dX1_copyOf_30 ?_
      refine z_aload_n X 2 rfl rfl dX1_copyOf_31 ?_
      refine zl_nums X (by omega) (S.1 k) rfl dX1_copyOf_32 ?_
      refine zl_len X (by omega) dX1_copyOf_35 ?_
      refine z_icmp_ge X (tgt := 66) (by omega) (by omega) dX1_copyOf_36 (by decide) (fun h36 => absurd h36 (by omega)) (fun h36 => ?_)
      refine z_iload_n X 0 rfl rfl dX1_copyOf_39 ?_
      refine z_aload_n X 3 rfl rfl dX1_copyOf_40 ?_
      refine zl_nums X (by omega) (S.1 k2) rfl dX1_copyOf_41 ?_
      refine zl_len X (by omega) dX1_copyOf_44 ?_
      refine z_icmp_ge X (tgt := 66) (by omega) (by omega) dX1_copyOf_45 (by decide) (fun h45 => absurd h45 (by omega)) (fun h45 => ?_)
      refine z_aload_n X 2 rfl rfl dX1_copyOf_48 ?_
      refine zl_nums X (by omega) (S.1 k) rfl dX1_copyOf_49 ?_
      refine z_iload_n X 0 rfl rfl dX1_copyOf_52 ?_
      refine z_aload_n X 3 rfl rfl dX1_copyOf_53 ?_
      refine zl_nums X (by omega) (S.1 k2) rfl dX1_copyOf_54 ?_
      refine z_iload_n X 0 rfl rfl dX1_copyOf_57 ?_
      refine zl_ld X (by omega) (by omega) (by omega) (cu (P k2) i.toNat) ((by show va_up S.2.1 (S.1 k) f (S.1 k2) i.toNat = _; rw [va_up_ne _ _ hna]; exact r3 k2 hk2 _ (by omega))) dX1_copyOf_58 ?_
      refine zl_st X (by omega) (by omega) (by omega) (cu (P k2) i.toNat) (rfl) (uc S (S.1 k) (va_up f i.toNat (cu (P k2) i.toNat))) (uc_uc) dX1_copyOf_59 ?_
      refine z_iinc X [(3, .int (iZ (i + 1))), (2, .int (iZ (t))), (0, .ref (ad (k + 31))), (1, .ref (ad (k2 + 31)))] 0 rfl rfl (by decide) dX1_copyOf_60 ?_
      refine z_goto X (tgt := 25) dX1_copyOf_63 (by decide) ?_
      refine ih (i + 1) t (va_up f i.toNat (cu (P k2) i.toNat)) (by omega) (by omega) h3 h4 h5 (fun j hj => ?_)
      by_cases hz : j = i.toNat
      · rw [hz, va_up_self, if_pos (by omega)]
      · rw [va_up_ne _ _ hz, h6 j hj]
        by_cases hy : (j : Int) < i
        · rw [if_pos hy, if_pos (by omega)]
        · rw [if_neg hy, if_neg (by omega)]
  refine z_aload_n X 0 rfl rfl dX1_copyOf_0 ?_
  refine zl_deg X (by omega) (S.2.2.1 k) rfl dX1_copyOf_1 ?_
  refine z_aload_n X 1 rfl rfl dX1_copyOf_4 ?_
  refine zl_deg X (by omega) (S.2.2.1 k2) rfl dX1_copyOf_5 ?_
  refine z_icmp_le X (tgt := 18) (by omega) (by omega) dX1_copyOf_8 (by decide) (fun h8 => ?_) (fun h8 => ?_)
  · refine z_aload_n X 1 rfl rfl dX1_copyOf_18 ?_
    refine zl_deg X (by omega) (S.2.2.1 k2) rfl dX1_copyOf_19 ?_
    refine z_istore_n X [(2, .int (iZ (S.2.2.1 k2))), (0, .ref (ad (k + 31))), (1, .ref (ad (k2 + 31)))] rfl rfl (by decide) dX1_copyOf_22 ?_
    refine z_iconst X (n := 0) dX1_copyOf_23 ?_
    refine z_istore_n X [(3, .int (iZ (0))), (2, .int (iZ (S.2.2.1 k2))), (0, .ref (ad (k + 31))), (1, .ref (ad (k2 + 31)))] rfl rfl (by decide) dX1_copyOf_24 ?_
    refine z_eqg (uc_self (S := S) (a := S.1 k)) ?_
    exact loop (S.2.2.1 k2 + 1).toNat 0 _ (S.2.1 (S.1 k)) (by omega) (by omega) (by omega) (by omega) (by omega) (fun j hj => by rw [r3 k hk j hj, if_neg (by omega)])
  · refine z_aload_n X 0 rfl rfl dX1_copyOf_11 ?_
    refine zl_deg X (by omega) (S.2.2.1 k) rfl dX1_copyOf_12 ?_
    refine z_goto X (tgt := 22) dX1_copyOf_15 (by decide) ?_
    refine z_istore_n X [(2, .int (iZ (S.2.2.1 k))), (0, .ref (ad (k + 31))), (1, .ref (ad (k2 + 31)))] rfl rfl (by decide) dX1_copyOf_22 ?_
    refine z_iconst X (n := 0) dX1_copyOf_23 ?_
    refine z_istore_n X [(3, .int (iZ (0))), (2, .int (iZ (S.2.2.1 k))), (0, .ref (ad (k + 31))), (1, .ref (ad (k2 + 31)))] rfl rfl (by decide) dX1_copyOf_24 ?_
    refine z_eqg (uc_self (S := S) (a := S.1 k)) ?_
    exact loop (S.2.2.1 k + 1).toNat 0 _ (S.2.1 (S.1 k)) (by omega) (by omega) (by omega) (by omega) (by omega) (fun j hj => by rw [r3 k hk j hj, if_neg (by omega)])
set_option maxHeartbeats 4000000 in
set_option maxRecDepth 100000 in
theorem c_X1_plusShifted {U : Type} [Lean.Grind.CommRing U] {cu : U → Nat → FP} (HU : mp_P cu) (l : Launch) {D : va_G} {ad : Nat → Nat} {cI cO : ClassId} {P : Nat → U} {T : zRest} {S : zS} (hR : zR cu P T S) {k k2 : Nat} (hk : k < 194) (hk2 : k2 < 194) (hne : k ≠ k2) (x : FP) {sh : Int} (h0 : 0 ≤ sh) (hsh : sh ≤ 100) (hfit : mp_sz cu (P k2) = 0 ∨ mp_sz cu (P k2) + sh ≤ 52) : zMv l yX1_plusShifted cX1_plusShifted 7 0 D (zTy cI cO) 419 ad [.ref (ad (k + 31)), .ref (ad (k2 + 31)), .int (iZ (vz x)), .int (iZ sh)] (gC ad cI cO S) (gC ad cI cO) (fun u => zR cu (va_up P k (P k + mp_m cu x sh.toNat * P k2)) T u) := by
  obtain ⟨r1, r2, r3, r4, r5, r6⟩ := id hR
  have ka := r1 k hk
  have ka2 := r1 k2 hk2
  have hdg := r4 k hk
  have hsz := r5 k hk
  have hdg2 := r4 k2 hk2
  have hsz2 := r5 k2 hk2
  have hna : S.1 k2 ≠ S.1 k := fun q => hne (r2 k2 k hk2 hk q).symm
  refine z_gov zm_X1_plusShifted (Nat.le_of_ble_eq_true rfl) [(0, .ref (ad (k + 31))), (1, .ref (ad (k2 + 31))), (2, .int (iZ (vz x))), (3, .int (iZ sh))] rfl (fun p e s m args below meth c A Q X E => ?_)
  have hq : ∀ j : Nat, cu (P k + mp_m cu x sh.toNat * P k2) j = cu (P k) j + if sh.toNat ≤ j then x * cu (P k2) (j - sh.toNat) else 0 := fun j => by rw [mp_add HU, mp_m_mul HU]
  have fin : ∀ (z : Int) (f : Nat → FP), -1 ≤ z → z < 52 → (∀ j : Nat, j < 52 → f j = cu (P k + mp_m cu x sh.toNat * P k2) j) → (∀ j : Nat, z < j → j < 52 → f j = 0) → (0 ≤ z → f z.toNat ≠ 0) → Z p l e (zRm 0) s m args below meth c 7 D 419 ad A 0 0 Q 130 [(4, .int (iZ (z))), (0, .ref (ad (k + 31))), (1, .ref (ad (k2 + 31))), (2, .int (iZ (vz x))), (3, .int (iZ (sh)))] [] (gC ad cI cO (uc S (S.1 k) f)) := by
    intro z f h1 h2 h3 h4 h5
    refine z_aload_n X 1 rfl rfl dX1_plusShifted_130 ?_
    refine z_iload X 0 rfl dX1_plusShifted_131 ?_
    refine zl_pdeg X (by omega) dX1_plusShifted_133 ?_
    exact E _ (zR_line HU hR hk f z (P k + mp_m cu x sh.toNat * P k2) h3 (fun j hj => by
        rw [hq, mp_sz_out HU (by omega)]
        split
        · rw [mp_sz_out HU (by omega)]
          grind
        · grind) h1 h4 (fun q => ⟨h2, h5 q⟩)) rfl dX1_plusShifted_136
  have loop2 : ∀ (n : Nat) (z : Int) (f : Nat → FP), z + 1 = n → z < 52 → (∀ j : Nat, j < 52 → f j = cu (P k + mp_m cu x sh.toNat * P k2) j) → (∀ j : Nat, z < j → j < 52 → f j = 0) → Z p l e (zRm 0) s m args below meth c 7 D 419 ad A 0 0 Q 99 [(4, .int (iZ (z))), (0, .ref (ad (k + 31))), (1, .ref (ad (k2 + 31))), (2, .int (iZ (vz x))), (3, .int (iZ (sh)))] [] (gC ad cI cO (uc S (S.1 k) f)) := by
    intro n
    induction n with
    | zero =>
      intro z f h1 h2 h3 h4
      refine z_iload X 0 rfl dX1_plusShifted_99 ?_
      refine z_if_lt X (tgt := 130) (by omega) dX1_plusShifted_101 (by decide) (fun h101 => ?_) (fun h101 => absurd h101 (by omega))
      exact fin z f (by omega) h2 h3 h4 (fun q => absurd q (by omega))
    | succ n ih =>
      intro z f h1 h2 h3 h4
      refine z_iload X 0 rfl dX1_plusShifted_99 ?_
      refine z_if_lt X (tgt := 130) (by omega) dX1_plusShifted_101 (by decide) (fun h101 => absurd h101 (by omega)) (fun h101 => ?_)
      refine z_iload X 0 rfl dX1_plusShifted_104 ?_
      refine z_aload_n X 1 rfl rfl dX1_plusShifted_106 ?_
      refine zl_nums X (by omega) (S.1 k) rfl dX1_plusShifted_107 ?_
      refine zl_len X (by omega) dX1_plusShifted_110 ?_
      refine z_icmp_ge X (tgt := 130) (by omega) (by omega) dX1_plusShifted_111 (by decide) (fun h111 => absurd h111 (by omega)) (fun h111 => ?_)
      refine z_aload_n X 1 rfl rfl dX1_plusShifted_114 ?_
      refine zl_nums X (by omega) (S.1 k) rfl dX1_plusShifted_115 ?_
      refine z_iload X 0 rfl dX1_plusShifted_118 ?_
      refine zl_ld X (by omega) (by omega) (by omega) (f z.toNat) ((by simp only [uc, va_up_self])) dX1_plusShifted_120 ?_
      have hv1 := vz_nn (f z.toNat)
      have hv2 := vz_lt (f z.toNat)
      refine z_if_ne X (tgt := 130) (by omega) dX1_plusShifted_121 (by decide) (fun h121 => ?_) (fun h121 => ?_)
      · exact fin z f (by omega) h2 h3 h4 (fun _ q => h121 (by rw [q]; rfl))
      · refine z_iinc X [(4, .int (iZ (z + -1))), (0, .ref (ad (k + 31))), (1, .ref (ad (k2 + 31))), (2, .int (iZ (vz x))), (3, .int (iZ (sh)))] 0 rfl rfl (by decide) dX1_plusShifted_124 ?_
        refine z_goto X (tgt := 99) dX1_plusShifted_127 (by decide) ?_
        refine ih (z + -1) f (by omega) (by omega) h3 (fun j hj hj2 => ?_)
        by_cases hz : z < j
        · exact h4 j hz hj2
        · have : j = z.toNat := by omega
          rw [this]
          exact vz_z.mp h121
  have loop1 : ∀ (n : Nat) (i z : Int) (f : Nat → FP), i + n = mp_sz cu (P k2) → 0 ≤ i → -1 ≤ z → z < 52 → (∀ j : Nat, j < 52 → f j = cu (P k) j + if sh ≤ j ∧ j < sh + i then x * cu (P k2) (j - sh.toNat) else 0) → (∀ j : Nat, z < j → j < 52 → f j = 0) → Z p l e (zRm 0) s m args below meth c 7 D 419 ad A 0 0 Q 9 [(5, .int (iZ (i))), (4, .int (iZ (z))), (0, .ref (ad (k + 31))), (1, .ref (ad (k2 + 31))), (2, .int (iZ (vz x))), (3, .int (iZ (sh)))] [] (gC ad cI cO (uc S (S.1 k) f)) := by
    intro n
    induction n with
    | zero =>
      intro i z f h1 h2 h3 h4 h5 h6
      refine z_iload X 0 rfl dX1_plusShifted_9 ?_
      refine z_aload_n X 3 rfl rfl dX1_plusShifted_11 ?_
      refine zl_deg X (by omega) (S.2.2.1 k2) rfl dX1_plusShifted_12 ?_
      refine z_icmp_gt X (tgt := 99) (by omega) (by omega) dX1_plusShifted_15 (by decide) (fun h15 => ?_) (fun h15 => absurd h15 (by omega))
      refine z_sub [1, 2, 3, 4, 5] rfl (loop2 (z + 1).toNat z f (by omega) h4 (fun j hj => ?_) h6)
      rw [h5 j hj, hq]
      congr 1
      by_cases hy : sh ≤ j ∧ (j : Int) < sh + i
      · rw [if_pos hy, if_pos (by omega)]
      · rw [if_neg hy]
        by_cases hw : sh.toNat ≤ j
        · rw [if_pos hw, mp_sz_out HU (by omega)]; grind
        · rw [if_neg hw]
    | succ n ih =>
      intro i z f h1 h2 h3 h4 h5 h6
      refine z_iload X 0 rfl dX1_plusShifted_9 ?_
      refine z_aload_n X 3 rfl rfl dX1_plusShifted_11 ?_
      refine zl_deg X (by omega) (S.2.2.1 k2) rfl dX1_plusShifted_12 ?_
      refine z_icmp_gt X (tgt := 99) (by omega) (by omega) dX1_plusShifted_15 (by decide) (fun h15 => absurd h15 (by omega)) (fun h15 => ?_)
      refine z_iload X 0 rfl dX1_plusShifted_18 ?_
      refine z_aload_n X 3 rfl rfl dX1_plusShifted_20 ?_
      refine zl_nums X (by omega) (S.1 k2) rfl dX1_plusShifted_21 ?_
      refine zl_len X (by omega) dX1_plusShifted_24 ?_
      refine z_icmp_ge X (tgt := 99) (by omega) (by omega) dX1_plusShifted_25 (by decide) (fun h25 => absurd h25 (by omega)) (fun h25 => ?_)
      refine z_iload X 0 rfl dX1_plusShifted_28 ?_
      refine z_iload_n X 5 rfl rfl dX1_plusShifted_30 ?_
      refine z_iadd X dX1_plusShifted_31 ?_
      refine z_istore X [(6, .int (iZ (i + sh))), (5, .int (iZ (i))), (4, .int (iZ (z))), (0, .ref (ad (k + 31))), (1, .ref (ad (k2 + 31))), (2, .int (iZ (vz x))), (3, .int (iZ (sh)))] rfl (by decide) dX1_plusShifted_32 ?_
      refine z_iload X 0 rfl dX1_plusShifted_34 ?_
      refine z_if_lt X (tgt := 93) (by omega) dX1_plusShifted_36 (by decide) (fun h36 => absurd h36 (by omega)) (fun h36 => ?_)
      refine z_iload X 0 rfl dX1_plusShifted_39 ?_
      refine z_aload_n X 3 rfl rfl dX1_plusShifted_41 ?_
      refine zl_nums X (by omega) (S.1 k) rfl dX1_plusShifted_42 ?_
      refine zl_len X (by omega) dX1_plusShifted_45 ?_
      refine z_icmp_ge X (tgt := 93) (by omega) (by omega) dX1_plusShifted_46 (by decide) (fun h46 => absurd h46 (by omega)) (fun h46 => ?_)
      refine z_aload_n X 3 rfl rfl dX1_plusShifted_49 ?_
      refine zl_nums X (by omega) (S.1 k) rfl dX1_plusShifted_50 ?_
      refine z_iload X 0 rfl dX1_plusShifted_53 ?_
      refine z_aload_n X 3 rfl rfl dX1_plusShifted_55 ?_
      refine zl_nums X (by omega) (S.1 k) rfl dX1_plusShifted_56 ?_
      refine z_iload X 0 rfl dX1_plusShifted_59 ?_
      refine zl_ld X (by omega) (by omega) (by omega) (f (i + sh).toNat) ((by simp only [uc, va_up_self])) dX1_plusShifted_61 ?_
      refine z_aload_n X 4 rfl rfl dX1_plusShifted_62 ?_
      refine zl_nums X (by omega) (S.1 k2) rfl dX1_plusShifted_63 ?_
      refine z_iload X 1 rfl dX1_plusShifted_66 ?_
      refine zl_ld X (by omega) (by omega) (by omega) (cu (P k2) i.toNat) ((by show va_up S.2.1 (S.1 k) f (S.1 k2) i.toNat = _; rw [va_up_ne _ _ hna]; exact r3 k2 hk2 _ (by omega))) dX1_plusShifted_68 ?_
      refine z_iload_n X 5 rfl rfl dX1_plusShifted_69 ?_
      refine z_imul X dX1_plusShifted_70 ?_
      refine z_iadd X dX1_plusShifted_71 ?_
      refine z_sipush X (n := 32003) (by decide) dX1_plusShifted_72 ?_
      have hm0 := @vz_mul_nn (cu (P k2) i.toNat) x
      have hm1 := @vz_mul_lt (cu (P k2) i.toNat) x
      have hm2 := vz_nn (f (i + sh).toNat)
      have hm3 := vz_lt (f (i + sh).toNat)
      refine z_irem X (by omega) (by omega) (by omega) (by omega) dX1_plusShifted_75 ?_
      refine zl_st X (by omega) (by omega) (by omega) (f (i + sh).toNat + cu (P k2) i.toNat * x) (vz_am _ _ _) (uc S (S.1 k) (va_up f (i + sh).toNat (f (i + sh).toNat + cu (P k2) i.toNat * x))) (uc_uc) dX1_plusShifted_76 ?_
      refine z_iload X 0 rfl dX1_plusShifted_77 ?_
      refine z_iload X 2 rfl dX1_plusShifted_79 ?_
      refine z_icmp_le X (tgt := 89) (by omega) (by omega) dX1_plusShifted_81 (by decide) (fun h81 => ?_) (fun h81 => ?_)
      · refine z_iload X 2 rfl dX1_plusShifted_89 ?_
        refine z_istore X [(4, .int (iZ (z))), (6, .int (iZ (i + sh))), (5, .int (iZ (i))), (0, .ref (ad (k + 31))), (1, .ref (ad (k2 + 31))), (2, .int (iZ (vz x))), (3, .int (iZ (sh)))] rfl (by decide) dX1_plusShifted_91 ?_
        refine z_iinc X [(5, .int (iZ (i + 1))), (4, .int (iZ (z))), (6, .int (iZ (i + sh))), (0, .ref (ad (k + 31))), (1, .ref (ad (k2 + 31))), (2, .int (iZ (vz x))), (3, .int (iZ (sh)))] 2 rfl rfl (by decide) dX1_plusShifted_93 ?_
        refine z_goto X (tgt := 9) dX1_plusShifted_96 (by decide) ?_
        refine z_sub [0, 1, 3, 4, 5, 6] rfl (ih (i + 1) (z) (va_up f (i + sh).toNat (f (i + sh).toNat + cu (P k2) i.toNat * x)) (by omega) (by omega) (by omega) (by omega) (fun j hj => ?_) (fun j hj hj2 => ?_))
        · by_cases hz : j = (i + sh).toNat
          · rw [hz, va_up_self, h5 _ (by omega), if_neg (by omega), if_pos (by omega), show (i + sh).toNat - sh.toNat = i.toNat by omega]
            grind
          · rw [va_up_ne _ _ hz, h5 j hj]
            congr 1
            by_cases hy : sh ≤ j ∧ (j : Int) < sh + i
            · rw [if_pos hy, if_pos (by omega)]
            · rw [if_neg hy, if_neg (by omega)]
        · rw [va_up_ne _ _ (by omega)]
          exact h6 j (by omega) hj2
      · refine z_iload X 0 rfl dX1_plusShifted_84 ?_
        refine z_goto X (tgt := 91) dX1_plusShifted_86 (by decide) ?_
        refine z_istore X [(4, .int (iZ (i + sh))), (6, .int (iZ (i + sh))), (5, .int (iZ (i))), (0, .ref (ad (k + 31))), (1, .ref (ad (k2 + 31))), (2, .int (iZ (vz x))), (3, .int (iZ (sh)))] rfl (by decide) dX1_plusShifted_91 ?_
        refine z_iinc X [(5, .int (iZ (i + 1))), (4, .int (iZ (i + sh))), (6, .int (iZ (i + sh))), (0, .ref (ad (k + 31))), (1, .ref (ad (k2 + 31))), (2, .int (iZ (vz x))), (3, .int (iZ (sh)))] 2 rfl rfl (by decide) dX1_plusShifted_93 ?_
        refine z_goto X (tgt := 9) dX1_plusShifted_96 (by decide) ?_
        refine z_sub [0, 1, 3, 4, 5, 6] rfl (ih (i + 1) (i + sh) (va_up f (i + sh).toNat (f (i + sh).toNat + cu (P k2) i.toNat * x)) (by omega) (by omega) (by omega) (by omega) (fun j hj => ?_) (fun j hj hj2 => ?_))
        · by_cases hz : j = (i + sh).toNat
          · rw [hz, va_up_self, h5 _ (by omega), if_neg (by omega), if_pos (by omega), show (i + sh).toNat - sh.toNat = i.toNat by omega]
            grind
          · rw [va_up_ne _ _ hz, h5 j hj]
            congr 1
            by_cases hy : sh ≤ j ∧ (j : Int) < sh + i
            · rw [if_pos hy, if_pos (by omega)]
            · rw [if_neg hy, if_neg (by omega)]
        · rw [va_up_ne _ _ (by omega)]
          exact h6 j (by omega) hj2
  refine z_aload_n X 0 rfl rfl dX1_plusShifted_0 ?_
  refine zl_deg X (by omega) (S.2.2.1 k) rfl dX1_plusShifted_1 ?_
  refine z_istore X [(4, .int (iZ (S.2.2.1 k))), (0, .ref (ad (k + 31))), (1, .ref (ad (k2 + 31))), (2, .int (iZ (vz x))), (3, .int (iZ (sh)))] rfl (by decide) dX1_plusShifted_4 ?_
  refine z_iconst X (n := 0) dX1_plusShifted_6 ?_
  refine z_istore X [(5, .int (iZ (0))), (4, .int (iZ (S.2.2.1 k))), (0, .ref (ad (k + 31))), (1, .ref (ad (k2 + 31))), (2, .int (iZ (vz x))), (3, .int (iZ (sh)))] rfl (by decide) dX1_plusShifted_7 ?_
  refine z_eqg (uc_self (S := S) (a := S.1 k)) ?_
  exact loop1 (mp_sz cu (P k2)) 0 _ (S.2.1 (S.1 k)) (by omega) (by omega) (by omega) (by omega) (fun j hj => by rw [r3 k hk j hj, if_neg (by omega)]; grind) (fun j hj hj2 => by rw [r3 k hk j hj2]; exact mp_sz_out HU (by omega))
set_option maxHeartbeats 4000000 in
set_option maxRecDepth 100000 in
theorem c_X1_exchange {U : Type} [Lean.Grind.CommRing U] {cu : U → Nat → FP} (HU : mp_P cu) (l : Launch) {D : va_G} {ad : Nat → Nat} {cI cO : ClassId} {P : Nat → U} {T : zRest} {S : zS} (hR : zR cu P T S) {k k2 : Nat} (hk : k < 194) (hk2 : k2 < 194) (hne : k ≠ k2) : zMv l yX1_exchange cX1_exchange 4 0 D (zTy cI cO) 419 ad [.ref (ad (k + 31)), .ref (ad (k2 + 31))] (gC ad cI cO S) (gC ad cI cO) (fun u => zR cu (va_up (va_up P k (P k2)) k2 (P k)) T u) := by
  obtain ⟨r1, r2, r3, r4, r5, r6⟩ := id hR
  have ka := r1 k hk
  have ka2 := r1 k2 hk2
  have hdg := r4 k hk
  have hdg2 := r4 k2 hk2
  have hsz := r5 k hk
  have hsz2 := r5 k2 hk2
  refine z_gov zm_X1_exchange (Nat.le_of_ble_eq_true rfl) [(0, .ref (ad (k + 31))), (1, .ref (ad (k2 + 31)))] rfl (fun p e s m args below meth c A Q X E => ?_)
  refine z_aload_n X 1 rfl rfl dX1_exchange_0 ?_
  refine zl_nums X (by omega) (S.1 k2) rfl dX1_exchange_1 ?_
  refine z_astore_n X [(2, .ref (ad (S.1 k2 + 225))), (0, .ref (ad (k + 31))), (1, .ref (ad (k2 + 31)))] rfl rfl (by decide) dX1_exchange_4 ?_
  refine z_aload_n X 2 rfl rfl dX1_exchange_5 ?_
  refine zl_deg X (by omega) (S.2.2.1 k2) rfl dX1_exchange_6 ?_
  refine z_istore_n X [(3, .int (iZ (S.2.2.1 k2))), (2, .ref (ad (S.1 k2 + 225))), (0, .ref (ad (k + 31))), (1, .ref (ad (k2 + 31)))] rfl rfl (by decide) dX1_exchange_9 ?_
  refine z_aload_n X 3 rfl rfl dX1_exchange_10 ?_
  refine z_aload_n X 2 rfl rfl dX1_exchange_11 ?_
  refine zl_nums X (by omega) (S.1 k) rfl dX1_exchange_12 ?_
  refine zl_pnums X (by omega) dX1_exchange_15 ?_
  refine z_aload_n X 3 rfl rfl dX1_exchange_18 ?_
  refine z_aload_n X 2 rfl rfl dX1_exchange_19 ?_
  refine zl_deg X (by omega) (S.2.2.1 k) rfl dX1_exchange_20 ?_
  refine zl_pdeg X (by omega) dX1_exchange_23 ?_
  refine z_aload_n X 2 rfl rfl dX1_exchange_26 ?_
  refine z_aload_n X 1 rfl rfl dX1_exchange_27 ?_
  refine zl_pnums X (by omega) dX1_exchange_28 ?_
  refine z_aload_n X 2 rfl rfl dX1_exchange_31 ?_
  refine z_iload_n X 0 rfl rfl dX1_exchange_32 ?_
  refine zl_pdeg X (by omega) dX1_exchange_33 ?_
  exact E _ (zR_swap hR hk hk2 hne) rfl dX1_exchange_36
