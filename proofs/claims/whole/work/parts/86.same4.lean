/-! class and reference answer the same: the others -/
section AI
variable {U V : Type}
theorem ag_gcd [Lean.Grind.CommRing U] [Lean.Grind.CommRing V] {cu : U → Nat → FP} {ca : V → Nat → U} (HU : mp_P cu) (HA : mp_P ca) {a b f d : V} (h : mGcd cu ca a b f) (h9 : mGcd cu ca a b d) : f = d := by
  have hV := mp_dom HA (mp_dom HU (mp_Fd_nz mp_FP))
  have z : ∀ {a b d x y : V}, a = 0 → b = 0 → mp_lc cu (mp_lc ca d) = 1 → a = d * x → b = d * y → mp_Cp x y → False := by
    intro a b d x y ha hb hl e1 e2 hc
    have hd := za_ne HU HA hl
    have hx : x = 0 := (hV.1 d x (by rw [← e1, ha])).elim (fun e => absurd e hd) id
    have hy : y = 0 := (hV.1 d y (by rw [← e2, hb])).elim (fun e => absurd e hd) id
    rw [hx, hy] at hc
    exact za_cp0 HU HA hc
  rcases h with ⟨a1, a2, a3⟩ | ⟨a1, x, y, a2, a3, a4⟩
  · rcases h9 with ⟨b1, b2, b3⟩ | ⟨b1, x9, y9, b2, b3, b4⟩
    · rw [a3, b3]
    · exact (z a1 a2 b1 b2 b3 b4).elim
  · rcases h9 with ⟨b1, b2, b3⟩ | ⟨b1, x9, y9, b2, b3, b4⟩
    · exact (z b1 b2 a1 a2 a3 a4).elim
    · exact (za_gcd HU HA (a2.symm.trans b2) (a3.symm.trans b3) a4 b4 a1 b1).1
theorem ag_gl [Lean.Grind.CommRing U] [Lean.Grind.CommRing V] {cu : U → Nat → FP} {ca : V → Nat → U} (HU : mp_P cu) (HA : mp_P ca) {a b f : V} (h : mGcd cu ca a b f) (ha : mp_sz ca a ≤ 1) (hb : mp_sz ca b ≤ 1) : mp_sz ca f ≤ 1 := by
  rcases h with ⟨-, -, e⟩ | ⟨a1, x, y, a2, a3, a4⟩
  · rw [e]
    exact zl_0 HA
  · by_cases hx : x = 0
    · by_cases hy : y = 0
      · rw [hx, hy] at a4
        exact (za_cp0 HU HA a4).elim
      · rw [a3, show f * y = y * f by grind] at hb
        exact zl_div HU HA hb hy
    · rw [a2, show f * x = x * f by grind] at ha
      exact zl_div HU HA ha hx
theorem ag_sq [Lean.Grind.CommRing U] [Lean.Grind.CommRing V] {cu : U → Nat → FP} {ca : V → Nat → U} (HU : mp_P cu) (HA : mp_P ca) {a x x9 : V} (h : zSq cu ca a x) (h9 : zSq cu ca a x9) : x = x9 := by
  obtain ⟨f, y, a1, a2, a3, a4⟩ := h
  obtain ⟨d, y9, b1, b2, b3, b4⟩ := h9
  exact (za_gcd HU HA (a1.symm.trans b1) (a2.symm.trans b2) a3 b3 a4 b4).2.1
theorem ag_sql [Lean.Grind.CommRing U] [Lean.Grind.CommRing V] {cu : U → Nat → FP} {ca : V → Nat → U} (HU : mp_P cu) (HA : mp_P ca) {a x : V} (h : zSq cu ca a x) (ha : mp_sz ca a ≤ 1) : mp_sz ca x ≤ 1 := by
  obtain ⟨f, y, a1, a2, a3, a4⟩ := h
  rw [a1] at ha
  exact zl_div HU HA ha (za_ne HU HA a4)
theorem ag_zero [Lean.Grind.CommRing U] [Lean.Grind.CommRing V] {cu : U → Nat → FP} {ca : V → Nat → U} (HU : mp_P cu) (HA : mp_P ca) {EL : Int → V × V} {md kd : Int} {sA sB : U} {W sD : V} (hJ : zJt cu ca EL md kd sA sB W sD) (a b : V) : md_E cu ca sB (zW ca kd sA) a * b - md_E cu ca sB (zW ca kd sA) b * a = 0 ↔ mR cu ca kd W sD a * b - mR cu ca kd W sD b * a = 0 := by
  have hV := mp_dom HA (mp_dom HU (mp_Fd_nz mp_FP))
  have h1 := ag_X HU HA hJ a b 1
  have hF := ag_F HU HA hJ (y := 1) hV.2
  constructor
  · intro e
    rw [e] at h1
    exact (hV.1 _ _ (by rw [← h1]; grind)).elim id (fun e => absurd e hF.2)
  · intro e
    rw [e] at h1
    exact (hV.1 _ _ (by rw [h1]; grind)).elim id (fun e => absurd e hF.1)
theorem ag_ite {P Q : Prop} {z zr : Int} (hz : z = @ite Int P (Classical.propDecidable _) 1 0) (h : (zr = 1 ∧ Q) ∨ (zr = 0 ∧ ¬ Q)) (pq : P ↔ Q) : z = zr ∧ (-2147483648 ≤ zr ∧ zr < 2147483648) := by
  rcases h with ⟨rfl, q⟩ | ⟨rfl, q⟩
  · exact ⟨by rw [hz, if_pos (pq.mpr q)], by omega⟩
  · exact ⟨by rw [hz, if_neg (fun p => q (pq.mp p))], by omega⟩
end AI
theorem ag_common {U V : Type} [Lean.Grind.CommRing U] [Lean.Grind.CommRing V] {cu : U → Nat → FP} {ca : V → Nat → U} (HU : mp_P cu) (HA : mp_P ca) {EL : Int → V × V} {md kd : Int} {sA sB : U} {W sD : V} {S : zS} (hC : zC cu ca EL md kd sA sB S) (hJ : zJt cu ca EL md kd sA sB W sD) {n1 n2 : Int} (bn1 : -2147483648 ≤ n1 ∧ n1 < 2147483648) (bn2 : -2147483648 ≤ n2 ∧ n2 < 2147483648) {r zr : Int} {u : zS × (Nat → Int64)} {v : zM}
    (hw : (r = 0 ∧ ∃ z, (fun z u => (0 ≤ n1 ∧ n1 < md) ∧ (0 ≤ n2 ∧ n2 < md) ∧ md < 120 ∧ z = md ∧ ∃ f : V, zC cu ca (zUp EL md (f, 1)) (md + 1) kd sA sB u ∧ (((EL n1).1 = 0 ∧ (EL n2).1 = 0 ∧ f = 0) ∨ (mp_lc cu (mp_lc ca f) = 1 ∧ ∃ x y, (EL n1).1 = f * x ∧ (EL n2).1 = f * y ∧ mp_Cp x y))) z u.1 ∧ u.2 0 = lZ z) ∨ ∃ E, (fun E u => zC cu ca EL md kd sA sB u ∧ ((E = "java/lang/IndexOutOfBoundsException" ∧ ¬ ((0 ≤ n1 ∧ n1 < md) ∧ (0 ≤ n2 ∧ n2 < md))) ∨ (E = "java/lang/IllegalStateException" ∧ ((0 ≤ n1 ∧ n1 < md) ∧ (0 ≤ n2 ∧ n2 < md)) ∧ ¬ md < 120))) E u.1 ∧ r = xc ["java/lang/IndexOutOfBoundsException", "java/lang/IllegalStateException"] E)
    (hm : (fun z u => (¬ ((0 ≤ n1 ∧ n1 < md) ∧ (0 ≤ n2 ∧ n2 < md)) ∧ zGm cu ca EL md kd W sD 1 u) ∨ (((0 ≤ n1 ∧ n1 < md) ∧ (0 ≤ n2 ∧ n2 < md)) ∧ ¬ md < 120 ∧ zGm cu ca EL md kd W sD 2 u) ∨ (((0 ≤ n1 ∧ n1 < md) ∧ (0 ≤ n2 ∧ n2 < md)) ∧ md < 120 ∧ z = md ∧ ∃ d, mGcd cu ca (EL n1).1 (EL n2).1 d ∧ zGm cu ca (zUp EL md (d, 1)) (md + 1) kd W sD 0 u)) zr v) : zAg cu ca u.1 v ∧ v.2.2.1 = r ∧ (r = 0 → u.2 0 = lZ zr ∧ -2147483648 ≤ zr ∧ zr < 2147483648) := by
  have hmd := zC_md hC
  rcases hw with ⟨r0, z, hp, hf⟩ | ⟨E, hp, r0⟩
  · obtain ⟨p1, p2, p3, p4, f, hc, hc9⟩ := hp
    rcases hm with ⟨m1, hg⟩ | ⟨m1, m2, hg⟩ | ⟨m1, m2, m3, d, hd, hg⟩
    · exfalso; omega
    · exfalso; omega
    · have hfd := ag_gcd HU HA hc9 hd; subst hfd; exact agN r0 hf (p4.trans m3.symm) (by omega) (ag0 hc hg (zJ_up hJ (fun k0 => ⟨ag_gl HU HA hd ((hJ.1 k0).2.2 n1 p1.1 p1.2).1 ((hJ.1 k0).2.2 n2 p2.1 p2.2).1, zl_1 HA⟩)))
  · obtain ⟨hc, ⟨rfl, e1⟩ | ⟨rfl, e1, e2⟩⟩ := hp
    · skip
      rcases hm with ⟨m1, hg⟩ | ⟨m1, m2, hg⟩ | ⟨m1, m2, m3, d, hd, hg⟩
      · exact agE r0 (by decide +kernel) (by decide) (ag0 hc hg hJ)
      · exfalso; omega
      · exfalso; omega
    · skip
      rcases hm with ⟨m1, hg⟩ | ⟨m1, m2, hg⟩ | ⟨m1, m2, m3, d, hd, hg⟩
      · exfalso; omega
      · exact agE r0 (by decide +kernel) (by decide) (ag0 hc hg hJ)
      · exfalso; omega
theorem ag_constant {U V : Type} [Lean.Grind.CommRing U] [Lean.Grind.CommRing V] {cu : U → Nat → FP} {ca : V → Nat → U} (HU : mp_P cu) (HA : mp_P ca) {EL : Int → V × V} {md kd : Int} {sA sB : U} {W sD : V} {S : zS} (hC : zC cu ca EL md kd sA sB S) (hJ : zJt cu ca EL md kd sA sB W sD) {n : Int} (bn : -2147483648 ≤ n ∧ n < 2147483648) {r zr : Int} {u : zS × (Nat → Int64)} {v : zM}
    (hw : (r = 0 ∧ ∃ z, (fun z u => (0 ≤ n ∧ n < md) ∧ z = @ite Int ((md_E cu ca sB (zW ca kd sA) (EL n).1 * (EL n).2 - md_E cu ca sB (zW ca kd sA) (EL n).2 * (EL n).1) = 0) (Classical.propDecidable _) 1 0 ∧ zC cu ca EL md kd sA sB u) z u.1 ∧ u.2 0 = lZ z) ∨ ∃ E, (fun E u => zC cu ca EL md kd sA sB u ∧ E = "java/lang/IndexOutOfBoundsException" ∧ ¬ (0 ≤ n ∧ n < md)) E u.1 ∧ r = xc ["java/lang/IndexOutOfBoundsException"] E)
    (hm : (fun z u => (¬ (0 ≤ n ∧ n < md) ∧ zGm cu ca EL md kd W sD 1 u) ∨ ((0 ≤ n ∧ n < md) ∧ ((z = 1 ∧ mR cu ca kd W sD (EL n).1 * (EL n).2 - mR cu ca kd W sD (EL n).2 * (EL n).1 = 0) ∨ (z = 0 ∧ mR cu ca kd W sD (EL n).1 * (EL n).2 - mR cu ca kd W sD (EL n).2 * (EL n).1 ≠ 0)) ∧ zGm cu ca EL md kd W sD 0 u)) zr v) : zAg cu ca u.1 v ∧ v.2.2.1 = r ∧ (r = 0 → u.2 0 = lZ zr ∧ -2147483648 ≤ zr ∧ zr < 2147483648) := by
  have hmd := zC_md hC
  rcases hw with ⟨r0, z, hp, hf⟩ | ⟨E, hp, r0⟩
  · obtain ⟨p1, p2, hc⟩ := hp
    rcases hm with ⟨m1, hg⟩ | ⟨m1, m2, hg⟩
    · exfalso; omega
    · exact agN r0 hf (ag_ite p2 m2 (ag_zero HU HA hJ _ _)).1 (ag_ite p2 m2 (ag_zero HU HA hJ _ _)).2 (ag0 hc hg hJ)
  · obtain ⟨hc, rfl, e1⟩ := hp
    rcases hm with ⟨m1, hg⟩ | ⟨m1, m2, hg⟩
    · exact agE r0 (by decide +kernel) (by decide) (ag0 hc hg hJ)
    · exfalso; omega
theorem ag_low {U V : Type} [Lean.Grind.CommRing U] [Lean.Grind.CommRing V] {cu : U → Nat → FP} {ca : V → Nat → U} (HU : mp_P cu) (HA : mp_P ca) {EL : Int → V × V} {md kd : Int} {sA sB : U} {W sD : V} {S : zS} (hC : zC cu ca EL md kd sA sB S) (hJ : zJt cu ca EL md kd sA sB W sD) {n : Int} (bn : -2147483648 ≤ n ∧ n < 2147483648) {r zr : Int} {u : zS × (Nat → Int64)} {v : zM}
    (hw : (r = 0 ∧ ∃ z, (fun (z : Int) (u : zS) => (0 ≤ n ∧ n < md) ∧ z = @ite Int (mp_sz ca (EL n).1 ≤ 1 ∧ mp_sz ca (EL n).2 ≤ 1) (Classical.propDecidable _) 1 0 ∧ zC cu ca EL md kd sA sB u) z u.1 ∧ u.2 0 = lZ z) ∨ ∃ E, (fun (E : String) (u : zS) => zC cu ca EL md kd sA sB u ∧ E = "java/lang/IndexOutOfBoundsException" ∧ ¬ (0 ≤ n ∧ n < md)) E u.1 ∧ r = xc ["java/lang/IndexOutOfBoundsException"] E)
    (hm : (fun z u => (¬ (0 ≤ n ∧ n < md) ∧ zGm cu ca EL md kd W sD 1 u) ∨ ((0 ≤ n ∧ n < md) ∧ ((z = 1 ∧ (mp_sz ca (EL n).1 ≤ 1 ∧ mp_sz ca (EL n).2 ≤ 1)) ∨ (z = 0 ∧ ¬ (mp_sz ca (EL n).1 ≤ 1 ∧ mp_sz ca (EL n).2 ≤ 1))) ∧ zGm cu ca EL md kd W sD 0 u)) zr v) : zAg cu ca u.1 v ∧ v.2.2.1 = r ∧ (r = 0 → u.2 0 = lZ zr ∧ -2147483648 ≤ zr ∧ zr < 2147483648) := by
  have hmd := zC_md hC
  rcases hw with ⟨r0, z, hp, hf⟩ | ⟨E, hp, r0⟩
  · obtain ⟨p1, p2, hc⟩ := hp
    rcases hm with ⟨m1, hg⟩ | ⟨m1, m2, hg⟩
    · exfalso; omega
    · exact agN r0 hf (ag_ite p2 m2 Iff.rfl).1 (ag_ite p2 m2 Iff.rfl).2 (ag0 hc hg hJ)
  · obtain ⟨hc, rfl, e1⟩ := hp
    rcases hm with ⟨m1, hg⟩ | ⟨m1, m2, hg⟩
    · exact agE r0 (by decide +kernel) (by decide) (ag0 hc hg hJ)
    · exfalso; omega
theorem ag_same {U V : Type} [Lean.Grind.CommRing U] [Lean.Grind.CommRing V] {cu : U → Nat → FP} {ca : V → Nat → U} (HU : mp_P cu) (HA : mp_P ca) {EL : Int → V × V} {md kd : Int} {sA sB : U} {W sD : V} {S : zS} (hC : zC cu ca EL md kd sA sB S) (hJ : zJt cu ca EL md kd sA sB W sD) {n1 n2 : Int} (bn1 : -2147483648 ≤ n1 ∧ n1 < 2147483648) (bn2 : -2147483648 ≤ n2 ∧ n2 < 2147483648) {r zr : Int} {u : zS × (Nat → Int64)} {v : zM}
    (hw : (r = 0 ∧ ∃ z, (fun (z : Int) (u : zS) => (0 ≤ n1 ∧ n1 < md) ∧ (0 ≤ n2 ∧ n2 < md) ∧ z = @ite Int (EL n1 = EL n2) (Classical.propDecidable _) 1 0 ∧ zC cu ca EL md kd sA sB u) z u.1 ∧ u.2 0 = lZ z) ∨ ∃ E, (fun (E : String) (u : zS) => zC cu ca EL md kd sA sB u ∧ E = "java/lang/IndexOutOfBoundsException" ∧ ¬ ((0 ≤ n1 ∧ n1 < md) ∧ (0 ≤ n2 ∧ n2 < md))) E u.1 ∧ r = xc ["java/lang/IndexOutOfBoundsException"] E)
    (hm : (fun z u => (¬ ((0 ≤ n1 ∧ n1 < md) ∧ (0 ≤ n2 ∧ n2 < md)) ∧ zGm cu ca EL md kd W sD 1 u) ∨ (((0 ≤ n1 ∧ n1 < md) ∧ (0 ≤ n2 ∧ n2 < md)) ∧ ((z = 1 ∧ EL n1 = EL n2) ∨ (z = 0 ∧ EL n1 ≠ EL n2)) ∧ zGm cu ca EL md kd W sD 0 u)) zr v) : zAg cu ca u.1 v ∧ v.2.2.1 = r ∧ (r = 0 → u.2 0 = lZ zr ∧ -2147483648 ≤ zr ∧ zr < 2147483648) := by
  have hmd := zC_md hC
  rcases hw with ⟨r0, z, hp, hf⟩ | ⟨E, hp, r0⟩
  · obtain ⟨p1, p9, p2, hc⟩ := hp
    rcases hm with ⟨m1, hg⟩ | ⟨m1, m2, hg⟩
    · exfalso; omega
    · exact agN r0 hf (ag_ite p2 m2 Iff.rfl).1 (ag_ite p2 m2 Iff.rfl).2 (ag0 hc hg hJ)
  · obtain ⟨hc, rfl, e1⟩ := hp
    rcases hm with ⟨m1, hg⟩ | ⟨m1, m2, hg⟩
    · exact agE r0 (by decide +kernel) (by decide) (ag0 hc hg hJ)
    · exfalso; omega
theorem ag_at {U V : Type} [Lean.Grind.CommRing U] [Lean.Grind.CommRing V] {cu : U → Nat → FP} {ca : V → Nat → U} (HU : mp_P cu) (HA : mp_P ca) {EL : Int → V × V} {md kd : Int} {sA sB : U} {W sD : V} {S : zS} (hC : zC cu ca EL md kd sA sB S) (hJ : zJt cu ca EL md kd sA sB W sD) {n i j h : Int} (bn : -2147483648 ≤ n ∧ n < 2147483648) (bi : -2147483648 ≤ i ∧ i < 2147483648) (bj : -2147483648 ≤ j ∧ j < 2147483648) (bh : -2147483648 ≤ h ∧ h < 2147483648) {r zr : Int} {u : zS × (Nat → Int64)} {v : zM}
    (hw : (r = 0 ∧ ∃ z, (fun z u => (0 ≤ n ∧ n < md) ∧ ((0 ≤ i ∧ i ≤ 6) ∧ (0 ≤ j ∧ j ≤ 6)) ∧ (h = 0 ∨ h = 1) ∧ z = vz (cu (ca (if h = 0 then (EL n).1 else (EL n).2) i.toNat) j.toNat) ∧ zC cu ca EL md kd sA sB u) z u.1 ∧ u.2 0 = lZ z) ∨ ∃ E, (fun E u => zC cu ca EL md kd sA sB u ∧ ((E = "java/lang/IndexOutOfBoundsException" ∧ ¬ (0 ≤ n ∧ n < md)) ∨ (E = "java/lang/IllegalArgumentException" ∧ (0 ≤ n ∧ n < md) ∧ ¬ ((0 ≤ i ∧ i ≤ 6) ∧ (0 ≤ j ∧ j ≤ 6))) ∨ (E = "java/lang/IllegalArgumentException" ∧ (0 ≤ n ∧ n < md) ∧ ((0 ≤ i ∧ i ≤ 6) ∧ (0 ≤ j ∧ j ≤ 6)) ∧ ¬ (h = 0 ∨ h = 1)))) E u.1 ∧ r = xc ["java/lang/IndexOutOfBoundsException", "java/lang/IllegalArgumentException"] E)
    (hm : (fun z u => (¬ (0 ≤ n ∧ n < md) ∧ zGm cu ca EL md kd W sD 1 u) ∨ ((0 ≤ n ∧ n < md) ∧ ¬ ((0 ≤ i ∧ i ≤ 6) ∧ (0 ≤ j ∧ j ≤ 6) ∧ (0 ≤ h ∧ h ≤ 1)) ∧ zGm cu ca EL md kd W sD 2 u) ∨ ((0 ≤ n ∧ n < md) ∧ ((0 ≤ i ∧ i ≤ 6) ∧ (0 ≤ j ∧ j ≤ 6) ∧ (0 ≤ h ∧ h ≤ 1)) ∧ z = vz (cu (ca (if h = 0 then (EL n).1 else (EL n).2) i.toNat) j.toNat) ∧ zGm cu ca EL md kd W sD 0 u)) zr v) : zAg cu ca u.1 v ∧ v.2.2.1 = r ∧ (r = 0 → u.2 0 = lZ zr ∧ -2147483648 ≤ zr ∧ zr < 2147483648) := by
  have hmd := zC_md hC
  rcases hw with ⟨r0, z, hp, hf⟩ | ⟨E, hp, r0⟩
  · obtain ⟨p1, p2, p3, p4, hc⟩ := hp
    rcases hm with ⟨m1, hg⟩ | ⟨m1, m2, hg⟩ | ⟨m1, m2, m3, hg⟩
    · exfalso; omega
    · exfalso; omega
    · exact agN r0 hf (p4.trans m3.symm) (by rw [m3]; exact ⟨vz_lo _, vz_hi _⟩) (ag0 hc hg hJ)
  · obtain ⟨hc, ⟨rfl, e1⟩ | ⟨rfl, e1, e2⟩ | ⟨rfl, e1, e2, e3⟩⟩ := hp
    · skip
      rcases hm with ⟨m1, hg⟩ | ⟨m1, m2, hg⟩ | ⟨m1, m2, m3, hg⟩
      · exact agE r0 (by decide +kernel) (by decide) (ag0 hc hg hJ)
      · exfalso; omega
      · exfalso; omega
    · skip
      rcases hm with ⟨m1, hg⟩ | ⟨m1, m2, hg⟩ | ⟨m1, m2, m3, hg⟩
      · exfalso; omega
      · exact agE r0 (by decide +kernel) (by decide) (ag0 hc hg hJ)
      · exfalso; omega
    · skip
      rcases hm with ⟨m1, hg⟩ | ⟨m1, m2, hg⟩ | ⟨m1, m2, m3, hg⟩
      · exfalso; omega
      · exact agE r0 (by decide +kernel) (by decide) (ag0 hc hg hJ)
      · exfalso; omega
theorem ag_cpC {U V : Type} [Lean.Grind.CommRing U] [Lean.Grind.CommRing V] {ca : V → Nat → U} (HA : mp_P ca) {u v : U} (h : mp_Cp (mp_C ca u) (mp_C ca v)) : mp_Cp u v := by
  intro d ⟨x, hx⟩ ⟨y, hy⟩
  obtain ⟨c, hc⟩ := h (mp_C ca d) ⟨mp_C ca x, by rw [hx, mp_C_mulC HA]⟩ ⟨mp_C ca y, by rw [hy, mp_C_mulC HA]⟩
  refine ⟨ca c 0, ?_⟩
  have := congrArg (fun z => ca z 0) hc
  simpa [mp_C_mul HA, mp_one HA] using this
theorem ag_set {U V : Type} [Lean.Grind.CommRing U] [Lean.Grind.CommRing V] {cu : U → Nat → FP} {ca : V → Nat → U} (HU : mp_P cu) (HA : mp_P ca) {EL : Int → V × V} {md kp : Int} {sA9 sB9 : U} {W9 sD9 a b : V} {E9 : Int → V × V} {m9 : Int} (hkp : kp = 1 ∨ kp = 2) (hnf : zNf cu ca a b) (hfit : zFits cu ca a b) (la : mp_sz ca a ≤ 1) (lb : mp_sz ca b ≤ 1) (hD : md_x cu ca a * b - md_x cu ca b * a ≠ 0) (hsB : sB9 ≠ 0) (hsD : sD9 ≠ 0) (h1 : mp_C ca sB9 * (md_x cu ca a * b - md_x cu ca b * a) = mp_C ca sA9 * ((if kp = 1 then a else b) * b)) (h2 : W9 * ((if kp = 1 then a else b) * b) = (if kp = 1 then (md_x cu ca a * b - md_x cu ca b * a) else ms_t ca * (md_x cu ca a * b - md_x cu ca b * a)) * sD9) : zJt cu ca E9 m9 kp sA9 sB9 W9 sD9 := by
  have hR := mp_Fd_nz mp_FP
  have hU := mp_dom HU hR
  have hV := mp_dom HA hU
  have hb := zNf_ne HU HA hnf
  have ha : a ≠ 0 → True := fun _ => trivial
  have hden : ((if kp = 1 then a else b) * b : V) ≠ 0 := by
    intro e
    rcases hV.1 _ _ e with e | e
    · by_cases k1 : kp = 1
      · rw [if_pos k1] at e
        apply hD
        rw [e, md_x0 HU HA]
        grind
      · rw [if_neg k1] at e
        exact hb e
    · exact hb e
  obtain ⟨u, hu⟩ : ∃ u, a = mp_C ca u := ⟨_, mp_sz_1 HA la⟩
  obtain ⟨v, hv⟩ : ∃ v, b = mp_C ca v := ⟨_, mp_sz_1 HA lb⟩
  have hDD : md_x cu ca a * b - md_x cu ca b * a = mp_C ca (md_d cu u * v - u * md_d cu v) := by
    rw [hu, hv, md_xC HU HA, md_xC HU HA, mp_C_sub HA, mp_C_mulC HA, mp_C_mulC HA]
    grind
  have hu0 : ∀ x : U, mp_C ca x ≠ 0 → x ≠ 0 := fun x hx e => hx (by rw [e, mp_C_0 HA])
  refine ⟨fun k0 => by omega, hsB, fun _ => ⟨?_, hsD⟩, fun _ => ⟨u, v, hu0 v (by rw [← hv]; exact hb), ?_, ?_, ag_cpC HA (by rw [← hu, ← hv]; exact hnf.1), hu0 _ (by rw [← hDD]; exact hD), fun k1 => ⟨?_, ?_⟩, fun k2 => ?_⟩⟩
  · refine mp_cancel hV hden ?_
    rcases hkp with k1 | k2
    · rw [if_pos k1] at h1 h2 ⊢
      rw [if_pos k1] at h2
      rw [zW, if_pos k1]
      grind
    · have k1 : ¬ kp = 1 := by omega
      rw [if_neg k1] at h1 h2 ⊢
      rw [if_neg k1] at h2
      rw [zW, if_neg k1]
      grind
  · have := mp_xz_row HU HA a 0
    have h9 := hfit.1.2
    rw [hu, mp_C_cf HA, if_pos rfl] at this
    rw [hu] at h9
    omega
  · have := mp_xz_row HU HA b 0
    have h9 := hfit.2.2
    rw [hv, mp_C_cf HA, if_pos rfl] at this
    rw [hv] at h9
    omega
  · refine hu0 u (fun e => hden ?_)
    rw [if_pos k1, hu, e]
    grind
  · rw [if_pos k1, hDD, hu, hv] at h1
    exact mp_C_inj HA (by rw [mp_C_mulC HA, mp_C_mulC HA, mp_C_mulC HA]; exact h1)
  · rw [if_neg (by omega), hDD, hv] at h1
    exact mp_C_inj HA (by rw [mp_C_mulC HA, mp_C_mulC HA, mp_C_mulC HA]; exact h1)
theorem ag_letter {U V : Type} [Lean.Grind.CommRing U] [Lean.Grind.CommRing V] {cu : U → Nat → FP} {ca : V → Nat → U} (HU : mp_P cu) (HA : mp_P ca) {EL : Int → V × V} {md kd : Int} {sA sB : U} {W sD : V} {S : zS} (hC : zC cu ca EL md kd sA sB S) (hJ : zJt cu ca EL md kd sA sB W sD) {kp n : Int} (bkp : -2147483648 ≤ kp ∧ kp < 2147483648) (bn : -2147483648 ≤ n ∧ n < 2147483648) {r zr : Int} {u : zS × (Nat → Int64)} {v : zM}
    (hw : (r = 0 ∧ ∃ z, (fun z u => (0 ≤ n ∧ n < md) ∧ md < 120 ∧ kd = 0 ∧ (kp = 1 ∨ kp = 2) ∧ (md_x cu ca (EL n).1 * (EL n).2 - md_x cu ca (EL n).2 * (EL n).1) ≠ 0 ∧ z = md ∧ ∃ sA9 sB9, zC cu ca (zUp EL md (mp_m ca (mp_m cu 1 0) 1, 1)) (md + 1) kp sA9 sB9 u ∧ sB9 ≠ 0 ∧ mp_C ca sB9 * (md_x cu ca (EL n).1 * (EL n).2 - md_x cu ca (EL n).2 * (EL n).1) = mp_C ca sA9 * ((if kp = 1 then (EL n).1 else (EL n).2) * (EL n).2)) z u.1 ∧ u.2 0 = lZ z) ∨ ∃ E, (fun E u => zC cu ca EL md kd sA sB u ∧ ((E = "java/lang/IndexOutOfBoundsException" ∧ ¬ (0 ≤ n ∧ n < md)) ∨ (E = "java/lang/IllegalStateException" ∧ (0 ≤ n ∧ n < md) ∧ ¬ md < 120) ∨ (E = "java/lang/IllegalArgumentException" ∧ (0 ≤ n ∧ n < md) ∧ md < 120 ∧ (kd ≠ 0 ∨ ¬ (kp = 1 ∨ kp = 2) ∨ (md_x cu ca (EL n).1 * (EL n).2 - md_x cu ca (EL n).2 * (EL n).1) = 0)))) E u.1 ∧ r = xc ["java/lang/IndexOutOfBoundsException", "java/lang/IllegalStateException", "java/lang/IllegalArgumentException"] E)
    (hm : (fun z u => (¬ (0 ≤ n ∧ n < md) ∧ zGm cu ca EL md kd W sD 1 u) ∨ ((0 ≤ n ∧ n < md) ∧ ¬ md < 120 ∧ zGm cu ca EL md kd W sD 2 u) ∨ ((0 ≤ n ∧ n < md) ∧ md < 120 ∧ (kd ≠ 0 ∨ ¬ (kp = 1 ∨ kp = 2) ∨ ¬ (mp_sz ca (EL n).1 ≤ 1 ∧ mp_sz ca (EL n).2 ≤ 1) ∨ md_x cu ca ((EL n).1) * (EL n).2 - md_x cu ca ((EL n).2) * (EL n).1 = 0) ∧ zGm cu ca EL md kd W sD 3 u) ∨ ((0 ≤ n ∧ n < md) ∧ md < 120 ∧ kd = 0 ∧ (kp = 1 ∨ kp = 2) ∧ (mp_sz ca (EL n).1 ≤ 1 ∧ mp_sz ca (EL n).2 ≤ 1) ∧ md_x cu ca ((EL n).1) * (EL n).2 - md_x cu ca ((EL n).2) * (EL n).1 ≠ 0 ∧ z = md ∧ ∃ W9 sD9, zGm cu ca (zUp EL md (mp_m ca (mp_m cu 1 0) 1, 1)) (md + 1) kp W9 sD9 0 u ∧ W9 * ((if kp = 1 then (EL n).1 else (EL n).2) * (EL n).2) = (if kp = 1 then (md_x cu ca ((EL n).1) * (EL n).2 - md_x cu ca ((EL n).2) * (EL n).1) else ms_t ca * (md_x cu ca ((EL n).1) * (EL n).2 - md_x cu ca ((EL n).2) * (EL n).1)) * sD9)) zr v) : zAg cu ca u.1 v ∧ v.2.2.1 = r ∧ (r = 0 → u.2 0 = lZ zr ∧ -2147483648 ≤ zr ∧ zr < 2147483648) := by
  have hmd := zC_md hC
  rcases hw with ⟨r0, z, hp, hf⟩ | ⟨E, hp, r0⟩
  · obtain ⟨p1, p2, p3, p4, p5, p6, sA9, sB9, hc, hsB, h8⟩ := hp
    rcases hm with ⟨m1, hg⟩ | ⟨m1, m2, hg⟩ | ⟨m1, m2, m3, hg⟩ | ⟨m1, m2, m4, m5, m8, m6, m7, hr⟩
    · exfalso; omega
    · exfalso; omega
    · rcases m3 with q | q | q | q; { exfalso; omega }; { exfalso; omega }; { exact absurd ((hJ.1 p3).2.2 n p1.1 p1.2) q }; { exact absurd q p5 }
    · obtain ⟨W9, sD9, hg, h9⟩ := hr; have lo := (hJ.1 p3).2.2 n p1.1 p1.2; exact agN r0 hf (p6.trans m7.symm) (by omega) (ag0 hc hg (ag_set HU HA p4 (zC_nf hC p1.1 p1.2) (zC_fit hC p1.1 p1.2) lo.1 lo.2 p5 hsB (hg.2.1 (by omega)).2.2 h8 h9 (EL := EL) (md := md)))
  · obtain ⟨hc, ⟨rfl, e1⟩ | ⟨rfl, e1, e2⟩ | ⟨rfl, e1, e2, e3⟩⟩ := hp
    · skip
      rcases hm with ⟨m1, hg⟩ | ⟨m1, m2, hg⟩ | ⟨m1, m2, m3, hg⟩ | ⟨m1, m2, m4, m5, m8, m6, m7, hr⟩
      · exact agE r0 (by decide +kernel) (by decide) (ag0 hc hg hJ)
      · exfalso; omega
      · exfalso; omega
      · exfalso; omega
    · skip
      rcases hm with ⟨m1, hg⟩ | ⟨m1, m2, hg⟩ | ⟨m1, m2, m3, hg⟩ | ⟨m1, m2, m4, m5, m8, m6, m7, hr⟩
      · exfalso; omega
      · exact agE r0 (by decide +kernel) (by decide) (ag0 hc hg hJ)
      · exfalso; omega
      · exfalso; omega
    · skip
      rcases hm with ⟨m1, hg⟩ | ⟨m1, m2, hg⟩ | ⟨m1, m2, m3, hg⟩ | ⟨m1, m2, m4, m5, m8, m6, m7, hr⟩
      · exfalso; omega
      · exfalso; omega
      · exact agE r0 (by decide +kernel) (by decide) (ag0 hc hg hJ)
      · rcases e3 with q | q | q; { exfalso; omega }; { exfalso; omega }; { exact absurd q m6 }
theorem ag_cpG {U V : Type} [Lean.Grind.CommRing U] [Lean.Grind.CommRing V] {cu : U → Nat → FP} {ca : V → Nat → U} (HU : mp_P cu) (HA : mp_P ca) {f w y : V} (hf : f ≠ 0) (hw : w ≠ 0) (hc : mp_Cp w y) : mp_G (f * w) (f * y) f := by
  have hV := mp_dom HA (mp_dom HU (mp_Fd_nz mp_FP))
  have h1 := mp_cp_lt mp_FP HU HA hw (mp_cp_sym hc)
  have h2 : mp_LT (f * y) (f * w) y w := ⟨hw, by grind, fun p9 q9 e => h1.2.2 p9 q9 (mp_cancel hV hf (by grind))⟩
  have hb : f * w ≠ 0 := fun e => (hV.1 _ _ e).elim hf hw
  obtain ⟨g, g0, e1, e2, e3⟩ := mp_lt_g hV hb h2
  have e4 : g = f := mp_cancel hV hw (by rw [← e2]; grind)
  rw [e4] at e3
  exact ⟨e3.2.1, e3.1, fun d h3 h4 => e3.2.2 d h4 h3⟩
theorem ag_sp {U V : Type} [Lean.Grind.CommRing U] [Lean.Grind.CommRing V] {cu : U → Nat → FP} {ca : V → Nat → U} (HU : mp_P cu) (HA : mp_P ca) {EL : Int → V × V} {md kd kp : Int} {sA sB : U} {W sD a b x r r9 : V} (hJ : zJt cu ca EL md kd sA sB W sD) (hkd : 0 ≤ kd ∧ kd ≤ 2) (hnf : zNf cu ca a b) (hfit : zFits cu ca a b) (hlo : kd = 0 → mp_sz ca b ≤ 1) (hx : zSq cu ca b x) (h : zSp cu ca kd sA sB kp x r) (h9 : mSp ca kd kp x r9) : r = r9 := by
  have hR := mp_Fd_nz mp_FP
  have hU := mp_dom HU hR
  have hV := mp_dom HA hU
  have hb := zNf_ne HU HA hnf
  obtain ⟨F, Y, f1, f2, f3, f4⟩ := hx
  have hF := za_ne HU HA f4
  have hx0 : x ≠ 0 := fun e => hb (by rw [f1, e]; grind)
  obtain ⟨f, w, y, e1, e2, e3, e4, e5⟩ := h
  have hf := za_ne HU HA e4
  have hw : w ≠ 0 := fun e => hx0 (by rw [e1, e]; grind)
  obtain ⟨hfree, hprim⟩ := md_bare HU HA hb f1 f2 f3
  have hG : mp_G x (md_E cu ca sB (zW ca kd sA) x) f := by
    have := ag_cpG HU HA hf hw e3
    rwa [← e1, ← e2] at this
  have hxs : mp_sz ca x ≤ 32003 := by
    have q1 := (mp_lc_mul HA hU hF hx0).1
    have q2 := mp_sz_pos HA hF
    have q3 := hfit.2.1
    rw [f1] at q3
    omega
  have hxx : mp_xz cu ca x ≤ 32003 := by
    have q1 := mp_xz_mul mp_FP HU HA hF hx0
    have q2 := mp_xz_pos HU HA hF
    have q3 := hfit.2.2
    rw [f1] at q3
    omega
  -- f is 1, or the letter where that divides x
  have one : mp_U f → f = 1 := fun hu => by
    obtain ⟨r1, hr1, q⟩ := mp_unit mp_FP HU HA hu
    have hcr : mp_C cu r1 ≠ 0 := fun q1 => hr1 (by
      have := congrArg (fun z => cu z 0) q1
      simpa [mp_C_cf HU, mp_zero HU] using this)
    rw [q, za_lcC HA hcr, za_lcC HU hr1] at e4
    rw [q, e4, mp_C_1 HU, mp_C_1 HA]
  have fin1 : f = 1 → ¬ (kd = 2 ∧ ca x 0 = 0) → r = r9 := by
    intro q1 q2
    rcases h9 with ⟨q3, q4, -⟩ | ⟨-, q4⟩
    · exact absurd ⟨q3, q4⟩ q2
    · rw [e5, q4]
      split
      · exact q1
      · rw [e1, q1]; grind
  rcases (by omega : kd = 0 ∨ kd = 1 ∨ kd = 2) with k | k | k
  · have hlx : mp_sz ca x ≤ 1 := by
      have := hlo k
      rw [f1] at this
      exact zl_div HU HA this hF
    have hxc := mp_sz_1 HA hlx
    have hux : mp_U (ca x 0) := hprim _ ⟨1, by rw [← hxc]; grind⟩
    obtain ⟨c, hc⟩ := hux
    refine fin1 (one ⟨w * mp_C ca c, ?_⟩) (by omega)
    rw [show f * (w * mp_C ca c) = (f * w) * mp_C ca c by grind, ← e1, hxc, ← mp_C_mulC HA, hc, mp_C_1 HA]
  · obtain ⟨u, v, v0, us, vs, huv, hne, h1, h2⟩ := hJ.2.2.2 (by omega)
    rw [zW, if_pos k] at hG
    exact fin1 (one (ms_log HU HA hx0 hfree hprim hxs hxx (h1 k).1 v0 us vs huv hne hJ.2.1 (h1 k).2 hG)) (by omega)
  · obtain ⟨u, v, v0, us, vs, huv, hne, h1, h2⟩ := hJ.2.2.2 (by omega)
    rw [zW, if_neg (by omega)] at hG
    obtain ⟨g1, g2⟩ := ms_exp HU HA hx0 hfree hprim hxs hxx v0 vs huv hne hJ.2.1 (h2 k) hG
    by_cases c0 : ca x 0 = 0
    · obtain ⟨r1, hr1, q⟩ := g1 c0
      have hcr : mp_C cu r1 ≠ 0 := fun q1 => hr1 (by
        have := congrArg (fun z => cu z 0) q1
        simpa [mp_C_cf HU, mp_zero HU] using this)
      have hCC : mp_C ca (mp_C cu r1) ≠ 0 := fun q1 => hcr (mp_C_inj HA (by rw [q1, mp_C_0 HA]))
      have ht := (ms_t_Pr HA hU).1
      have hlt : mp_lc ca (ms_t ca) = 1 := by
        rw [mp_lc, ms_t_sz HA hU, ms_t, mp_m_cf HA, if_pos rfl]
      have l1 : mp_lc cu (1 : U) = 1 := by
        rw [← mp_C_1 HU]
        exact za_lcC HU hR.2
      rw [q, (mp_lc_mul HA hU hCC ht).2, za_lcC HA hcr, hlt, show mp_C cu r1 * 1 = mp_C cu r1 by grind, za_lcC HU hr1] at e4
      have ft : f = ms_t ca := by
        rw [q, e4, mp_C_1 HU, mp_C_1 HA]
        grind
      rcases h9 with ⟨-, -, w9, q4, q5⟩ | ⟨q4, -⟩
      · have hww : w = w9 := mp_cancel hV ht (by rw [← q4, ← ft]; exact e1.symm)
        rw [e5, q5, ft, hww]
      · exact absurd ⟨k, c0⟩ q4
    · exact fin1 (one (g2 c0)) (fun q => c0 q.2)
theorem ag_spl {U V : Type} [Lean.Grind.CommRing U] [Lean.Grind.CommRing V] {cu : U → Nat → FP} {ca : V → Nat → U} (HU : mp_P cu) (HA : mp_P ca) {kd kp : Int} {sA sB : U} {x r : V} (hx : mp_sz ca x ≤ 1) (h0 : x ≠ 0) (h : zSp cu ca kd sA sB kp x r) : mp_sz ca r ≤ 1 := by
  obtain ⟨f, w, y, e1, e2, e3, e4, e5⟩ := h
  have hf := za_ne HU HA e4
  have hw : w ≠ 0 := fun e => h0 (by rw [e1, e]; grind)
  rw [e5]
  rw [e1] at hx
  split
  · rw [show f * w = w * f by grind] at hx
    exact zl_div HU HA hx hw
  · exact zl_div HU HA hx hf
theorem ag_part {U V : Type} [Lean.Grind.CommRing U] [Lean.Grind.CommRing V] {cu : U → Nat → FP} {ca : V → Nat → U} (HU : mp_P cu) (HA : mp_P ca) {EL : Int → V × V} {md kd : Int} {sA sB : U} {W sD : V} {S : zS} (hC : zC cu ca EL md kd sA sB S) (hJ : zJt cu ca EL md kd sA sB W sD) {n kp : Int} (bn : -2147483648 ≤ n ∧ n < 2147483648) (bkp : -2147483648 ≤ kp ∧ kp < 2147483648) {r zr : Int} {u : zS × (Nat → Int64)} {v : zM}
    (hw : (r = 0 ∧ ∃ z, (fun z u => (0 ≤ n ∧ n < md) ∧ md < 120 ∧ (0 ≤ kp ∧ kp ≤ 4) ∧ z = md ∧ ∃ r : V, zC cu ca (zUp EL md (r, 1)) (md + 1) kd sA sB u ∧ ((kp = 0 ∧ r = (EL n).1) ∨ (kp = 1 ∧ r = (EL n).2) ∨ (kp = 2 ∧ zSq cu ca (EL n).2 r) ∨ (3 ≤ kp ∧ ∃ x, zSq cu ca (EL n).2 x ∧ zSp cu ca kd sA sB kp x r))) z u.1 ∧ u.2 0 = lZ z) ∨ ∃ E, (fun E u => zC cu ca EL md kd sA sB u ∧ ((E = "java/lang/IndexOutOfBoundsException" ∧ ¬ (0 ≤ n ∧ n < md)) ∨ (E = "java/lang/IllegalStateException" ∧ (0 ≤ n ∧ n < md) ∧ ¬ md < 120) ∨ (E = "java/lang/IllegalArgumentException" ∧ (0 ≤ n ∧ n < md) ∧ md < 120 ∧ ¬ (0 ≤ kp ∧ kp ≤ 4)))) E u.1 ∧ r = xc ["java/lang/IndexOutOfBoundsException", "java/lang/IllegalStateException", "java/lang/IllegalArgumentException"] E)
    (hm : (fun z u => (¬ (0 ≤ n ∧ n < md) ∧ zGm cu ca EL md kd W sD 1 u) ∨ ((0 ≤ n ∧ n < md) ∧ ¬ md < 120 ∧ zGm cu ca EL md kd W sD 2 u) ∨ ((0 ≤ n ∧ n < md) ∧ md < 120 ∧ ¬ (0 ≤ kp ∧ kp ≤ 4) ∧ zGm cu ca EL md kd W sD 3 u) ∨ ((0 ≤ n ∧ n < md) ∧ md < 120 ∧ (0 ≤ kp ∧ kp ≤ 4) ∧ z = md ∧ ∃ r, zGm cu ca (zUp EL md (r, 1)) (md + 1) kd W sD 0 u ∧ ((kp = 0 ∧ r = (EL n).1) ∨ (kp = 1 ∧ r = (EL n).2) ∨ (kp = 2 ∧ zSq cu ca (EL n).2 r) ∨ (3 ≤ kp ∧ ∃ x, zSq cu ca (EL n).2 x ∧ mSp ca kd kp x r)))) zr v) : zAg cu ca u.1 v ∧ v.2.2.1 = r ∧ (r = 0 → u.2 0 = lZ zr ∧ -2147483648 ≤ zr ∧ zr < 2147483648) := by
  have hmd := zC_md hC
  rcases hw with ⟨r0, z, hp, hf⟩ | ⟨E, hp, r0⟩
  · obtain ⟨p1, p2, p3, p4, r1, hc, hr1⟩ := hp
    rcases hm with ⟨m1, hg⟩ | ⟨m1, m2, hg⟩ | ⟨m1, m2, m3, hg⟩ | ⟨m1, m2, m3, m4, hr⟩
    · exfalso; omega
    · exfalso; omega
    · exfalso; omega
    · obtain ⟨r9, hg, hr9⟩ := hr
      have hnf := zC_nf hC p1.1 p1.2
      have hx0 : ∀ x, zSq cu ca (EL n).2 x → x ≠ 0 := fun x ⟨F, Y, f1, _⟩ e => zNf_ne HU HA hnf (by rw [f1, e]; grind)
      have key : r1 = r9 ∧ (kd = 0 → mp_sz ca r1 ≤ 1) := by
        rcases hr1 with ⟨k1, q1⟩ | ⟨k1, q1⟩ | ⟨k1, q1⟩ | ⟨k1, x, q1, q2⟩
        · rcases hr9 with ⟨k9, q9⟩ | ⟨k9, q9⟩ | ⟨k9, q9⟩ | ⟨k9, x9, q9, q8⟩
          · exact ⟨q1.trans q9.symm, fun k0 => by rw [q1]; exact ((hJ.1 k0).2.2 n p1.1 p1.2).1⟩
          · exfalso; omega
          · exfalso; omega
          · exfalso; omega
        · rcases hr9 with ⟨k9, q9⟩ | ⟨k9, q9⟩ | ⟨k9, q9⟩ | ⟨k9, x9, q9, q8⟩
          · exfalso; omega
          · exact ⟨q1.trans q9.symm, fun k0 => by rw [q1]; exact ((hJ.1 k0).2.2 n p1.1 p1.2).2⟩
          · exfalso; omega
          · exfalso; omega
        · rcases hr9 with ⟨k9, q9⟩ | ⟨k9, q9⟩ | ⟨k9, q9⟩ | ⟨k9, x9, q9, q8⟩
          · exfalso; omega
          · exfalso; omega
          · exact ⟨ag_sq HU HA q1 q9, fun k0 => ag_sql HU HA q1 ((hJ.1 k0).2.2 n p1.1 p1.2).2⟩
          · exfalso; omega
        · rcases hr9 with ⟨k9, q9⟩ | ⟨k9, q9⟩ | ⟨k9, q9⟩ | ⟨k9, x9, q9, q8⟩
          · exfalso; omega
          · exfalso; omega
          · exfalso; omega
          · have hxx := ag_sq HU HA q1 q9
            subst hxx
            exact ⟨ag_sp HU HA hJ (zC_kd hC) hnf (zC_fit hC p1.1 p1.2) (fun k0 => ((hJ.1 k0).2.2 n p1.1 p1.2).2) q1 q2 q8, fun k0 => ag_spl HU HA (ag_sql HU HA q1 ((hJ.1 k0).2.2 n p1.1 p1.2).2) (hx0 _ q1) q2⟩
      obtain ⟨rfl, hlow⟩ := key
      exact agN r0 hf (p4.trans m4.symm) (by omega) (ag0 hc hg (zJ_up hJ (fun k0 => ⟨hlow k0, zl_1 HA⟩)))
  · obtain ⟨hc, ⟨rfl, e1⟩ | ⟨rfl, e1, e2⟩ | ⟨rfl, e1, e2, e3⟩⟩ := hp
    · skip
      rcases hm with ⟨m1, hg⟩ | ⟨m1, m2, hg⟩ | ⟨m1, m2, m3, hg⟩ | ⟨m1, m2, m3, m4, hr⟩
      · exact agE r0 (by decide +kernel) (by decide) (ag0 hc hg hJ)
      · exfalso; omega
      · exfalso; omega
      · exfalso; omega
    · skip
      rcases hm with ⟨m1, hg⟩ | ⟨m1, m2, hg⟩ | ⟨m1, m2, m3, hg⟩ | ⟨m1, m2, m3, m4, hr⟩
      · exfalso; omega
      · exact agE r0 (by decide +kernel) (by decide) (ag0 hc hg hJ)
      · exfalso; omega
      · exfalso; omega
    · skip
      rcases hm with ⟨m1, hg⟩ | ⟨m1, m2, hg⟩ | ⟨m1, m2, m3, hg⟩ | ⟨m1, m2, m3, m4, hr⟩
      · exfalso; omega
      · exfalso; omega
      · exact agE r0 (by decide +kernel) (by decide) (ag0 hc hg hJ)
      · exfalso; omega
