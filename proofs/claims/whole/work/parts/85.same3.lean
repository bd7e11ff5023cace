/-! class and reference answer the same -/
section AH
variable {U V : Type}
theorem ag0 [Lean.Grind.CommRing U] [Lean.Grind.CommRing V] {cu : U → Nat → FP} {ca : V → Nat → U} {EL : Int → V × V} {md kd : Int} {sA sB : U} {W sD : V} {cd : Int} {u : zS} {v : zM} (hC : zC cu ca EL md kd sA sB u) (hG : zGm cu ca EL md kd W sD cd v) (hJ : zJt cu ca EL md kd sA sB W sD) : zAg cu ca u v ∧ v.2.2.1 = cd := ⟨⟨EL, md, kd, sA, sB, W, sD, cd, hC, hG, hJ⟩, zGm_cd hG⟩
theorem agE {r k : Int} {L : List String} {E : String} {P Q : Prop} {u : Int} (r0 : r = xc L E) (hk : xc L E = k) (k0 : k ≠ 0) (h : P ∧ u = k) : P ∧ u = r ∧ (r = 0 → Q) := ⟨h.1, by rw [r0, hk]; exact h.2, fun e => absurd (by rw [← hk, ← r0]; exact e) k0⟩
theorem agN {r zr z : Int} {o : Int64} {P : Prop} {u : Int} (r0 : r = 0) (ho : o = lZ z) (hz : z = zr) (hr : -2147483648 ≤ zr ∧ zr < 2147483648) (h : P ∧ u = 0) : P ∧ u = r ∧ (r = 0 → o = lZ zr ∧ -2147483648 ≤ zr ∧ zr < 2147483648) := ⟨h.1, by rw [r0]; exact h.2, fun _ => ⟨by rw [ho, hz], hr⟩⟩
theorem zl_low [Lean.Grind.CommRing U] [Lean.Grind.CommRing V] {cu : U → Nat → FP} {ca : V → Nat → U} (HU : mp_P cu) (HA : mp_P ca) {X Y p q : V} (h : zLow cu ca X Y p q) (hY : Y ≠ 0) (hl : mp_sz ca X ≤ 1 ∧ mp_sz ca Y ≤ 1) : mp_sz ca p ≤ 1 ∧ mp_sz ca q ≤ 1 := by
  obtain ⟨g, e1, e2, -, -⟩ := h
  have hg : g ≠ 0 := fun e => hY (by rw [e2, e]; grind)
  rw [e1, e2] at hl
  exact ⟨zl_div HU HA hl.1 hg, zl_div HU HA hl.2 hg⟩
theorem ag1 [Lean.Grind.CommRing U] [Lean.Grind.CommRing V] {cu : U → Nat → FP} {ca : V → Nat → U} (HU : mp_P cu) (HA : mp_P ca) {EL : Int → V × V} {md kd : Int} {sA sB : U} {W sD X Y X9 Y9 : V} {u : zS} {v : zM} (hJ : zJt cu ca EL md kd sA sB W sD) (hx : X * Y9 = X9 * Y) (hY : Y ≠ 0) (hY9 : Y9 ≠ 0) (hl : kd = 0 → mp_sz ca X ≤ 1 ∧ mp_sz ca Y ≤ 1) (hc : ∃ p q, zC cu ca (zUp EL md (p, q)) (md + 1) kd sA sB u ∧ zLow cu ca X Y p q) (hr : ∃ p q, zLow cu ca X9 Y9 p q ∧ zFits cu ca p q ∧ zGm cu ca (zUp EL md (p, q)) (md + 1) kd W sD 0 v) : zAg cu ca u v ∧ v.2.2.1 = 0 := by
  obtain ⟨p, q, h1, h2⟩ := hc
  obtain ⟨p9, q9, h3, -, h4⟩ := hr
  obtain ⟨rfl, rfl⟩ := za_low HU HA h2 h3 hx hY hY9
  exact ag0 h1 h4 (zJ_up hJ (fun k0 => zl_low HU HA h2 hY (hl k0)))
theorem ag2 [Lean.Grind.CommRing U] [Lean.Grind.CommRing V] {cu : U → Nat → FP} {ca : V → Nat → U} (HU : mp_P cu) (HA : mp_P ca) {EL : Int → V × V} {md kd : Int} {sA sB : U} {X Y X9 Y9 : V} {u : zS} (hm : 0 ≤ md) (hx : X * Y9 = X9 * Y) (hY : Y ≠ 0) (hY9 : Y9 ≠ 0) (hc : ∃ p q, zC cu ca (zUp EL md (p, q)) (md + 1) kd sA sB u ∧ zLow cu ca X Y p q) (hr : ∃ p q, zLow cu ca X9 Y9 p q ∧ ¬ zFits cu ca p q) : False := by
  obtain ⟨p, q, h1, h2⟩ := hc
  obtain ⟨p9, q9, h3, h4⟩ := hr
  obtain ⟨rfl, rfl⟩ := za_low HU HA h2 h3 hx hY hY9
  exact h4 (zC_fits hm h1)
theorem ag3 [Lean.Grind.CommRing U] [Lean.Grind.CommRing V] {cu : U → Nat → FP} {ca : V → Nat → U} (HU : mp_P cu) (HA : mp_P ca) {X Y X9 Y9 : V} {P : V → V → Prop} (hx : X * Y9 = X9 * Y) (hY : Y ≠ 0) (hY9 : Y9 ≠ 0) (hc : ∃ p q, zLow cu ca X Y p q ∧ ¬ zFits cu ca p q) (hr : ∃ p q, zLow cu ca X9 Y9 p q ∧ zFits cu ca p q ∧ P p q) : False := by
  obtain ⟨p, q, h1, h2⟩ := hc
  obtain ⟨p9, q9, h3, h4, -⟩ := hr
  obtain ⟨rfl, rfl⟩ := za_low HU HA h1 h3 hx hY hY9
  exact h2 h4
/-- the derivation's numerator, as the class and as the reference has it -/
theorem ag_X [Lean.Grind.CommRing U] [Lean.Grind.CommRing V] {cu : U → Nat → FP} {ca : V → Nat → U} (HU : mp_P cu) (HA : mp_P ca) {EL : Int → V × V} {md kd : Int} {sA sB : U} {W sD : V} (hJ : zJt cu ca EL md kd sA sB W sD) (a b y : V) : (md_E cu ca sB (zW ca kd sA) a * b - md_E cu ca sB (zW ca kd sA) b * a) * mF kd sD y = (mR cu ca kd W sD a * b - mR cu ca kd W sD b * a) * (mp_C ca sB * y) := by
  by_cases k0 : kd = 0
  · obtain ⟨e1, e2, -⟩ := hJ.1 k0
    have e3 : zW ca kd sA = 0 := by
      rw [zW, if_neg (by omega), e1, mp_C_0 HA]
      grind
    have e4 : mF kd sD y = y := if_pos k0
    have e5 : ∀ x, mR cu ca kd W sD x = md_x cu ca x := fun x => if_pos k0
    rw [e4, e5, e5, e3, e2, md_E, md_E, mp_C_1 HA]
    grind
  · obtain ⟨e1, -⟩ := hJ.2.2.1 k0
    have e4 : mF kd sD y = y * sD := if_neg k0
    have e5 : ∀ x, mR cu ca kd W sD x = md_x cu ca x * sD + md_d ca x * W := fun x => if_neg k0
    rw [e4, e5, e5, md_E, md_E]
    grind
theorem ag_F [Lean.Grind.CommRing U] [Lean.Grind.CommRing V] {cu : U → Nat → FP} {ca : V → Nat → U} (HU : mp_P cu) (HA : mp_P ca) {EL : Int → V × V} {md kd : Int} {sA sB : U} {W sD y : V} (hJ : zJt cu ca EL md kd sA sB W sD) (hy : y ≠ 0) : mF kd sD y ≠ 0 ∧ mp_C ca sB * y ≠ 0 := by
  have hV := mp_dom HA (mp_dom HU (mp_Fd_nz mp_FP))
  refine ⟨fun e => ?_, fun e => ?_⟩
  · by_cases k0 : kd = 0
    · rw [mF, if_pos k0] at e
      exact hy e
    · rw [mF, if_neg k0] at e
      exact (hV.1 _ _ e).elim hy (hJ.2.2.1 k0).2
  · rcases hV.1 _ _ e with h | h
    · exact hJ.2.1 (mp_C_inj HA (by rw [h, mp_C_0 HA]))
    · exact hy h
theorem ag_Xl [Lean.Grind.CommRing U] [Lean.Grind.CommRing V] {cu : U → Nat → FP} {ca : V → Nat → U} (HU : mp_P cu) (HA : mp_P ca) {EL : Int → V × V} {md kd : Int} {sA sB : U} {W sD a b y : V} (hJ : zJt cu ca EL md kd sA sB W sD) (k0 : kd = 0) (ha : mp_sz ca a ≤ 1) (hb : mp_sz ca b ≤ 1) (hy : mp_sz ca y ≤ 1) : mp_sz ca (md_E cu ca sB (zW ca kd sA) a * b - md_E cu ca sB (zW ca kd sA) b * a) ≤ 1 ∧ mp_sz ca (mp_C ca sB * y) ≤ 1 := by
  obtain ⟨e1, e2, -⟩ := hJ.1 k0
  have e3 : zW ca kd sA = 0 := by
    rw [zW, if_neg (by omega), e1, mp_C_0 HA]
    grind
  have e6 : ∀ x, md_E cu ca sB (zW ca kd sA) x = md_x cu ca x := fun x => by
    rw [e3, e2, md_E, mp_C_1 HA]
    grind
  rw [e6, e6]
  exact ⟨mp_sz_sub HA (zl_mul HA (zl_x HU HA ha) hb) (zl_mul HA (zl_x HU HA hb) ha), zl_mul HA (zl_C HA sB) hy⟩
end AH
theorem ag_add {U V : Type} [Lean.Grind.CommRing U] [Lean.Grind.CommRing V] {cu : U → Nat → FP} {ca : V → Nat → U} (HU : mp_P cu) (HA : mp_P ca) {EL : Int → V × V} {md kd : Int} {sA sB : U} {W sD : V} {S : zS} (hC : zC cu ca EL md kd sA sB S) (hJ : zJt cu ca EL md kd sA sB W sD) {n1 n2 : Int} (bn1 : -2147483648 ≤ n1 ∧ n1 < 2147483648) (bn2 : -2147483648 ≤ n2 ∧ n2 < 2147483648) {r zr : Int} {u : zS × (Nat → Int64)} {v : zM}
    (hw : (r = 0 ∧ ∃ z, (fun z u => (0 ≤ n1 ∧ n1 < md) ∧ (0 ≤ n2 ∧ n2 < md) ∧ md < 120 ∧ z = md ∧ ∃ p q, zC cu ca (zUp EL md (p, q)) (md + 1) kd sA sB u ∧ zLow cu ca ((EL n1).1 * (EL n2).2 + mp_C ca (mp_C cu 1) * (EL n2).1 * (EL n1).2) ((EL n1).2 * (EL n2).2) p q) z u.1 ∧ u.2 0 = lZ z) ∨ ∃ E, (fun E u => zC cu ca EL md kd sA sB u ∧ ((E = "java/lang/IndexOutOfBoundsException" ∧ ¬ ((0 ≤ n1 ∧ n1 < md) ∧ (0 ≤ n2 ∧ n2 < md))) ∨ (E = "java/lang/IllegalStateException" ∧ ((0 ≤ n1 ∧ n1 < md) ∧ (0 ≤ n2 ∧ n2 < md)) ∧ ¬ md < 120) ∨ (E = "java/lang/IllegalStateException" ∧ ((0 ≤ n1 ∧ n1 < md) ∧ (0 ≤ n2 ∧ n2 < md)) ∧ md < 120 ∧ ∃ p q, zLow cu ca ((EL n1).1 * (EL n2).2 + mp_C ca (mp_C cu 1) * (EL n2).1 * (EL n1).2) ((EL n1).2 * (EL n2).2) p q ∧ ¬ zFits cu ca p q))) E u.1 ∧ r = xc ["java/lang/IndexOutOfBoundsException", "java/lang/IllegalStateException"] E)
    (hm : (fun z u => (¬ ((0 ≤ n1 ∧ n1 < md) ∧ (0 ≤ n2 ∧ n2 < md)) ∧ zGm cu ca EL md kd W sD 1 u) ∨ (((0 ≤ n1 ∧ n1 < md) ∧ (0 ≤ n2 ∧ n2 < md)) ∧ ¬ md < 120 ∧ zGm cu ca EL md kd W sD 2 u) ∨ (((0 ≤ n1 ∧ n1 < md) ∧ (0 ≤ n2 ∧ n2 < md)) ∧ md < 120 ∧ z = md ∧ ∃ p q, zLow cu ca ((EL n1).1 * (EL n2).2 + (EL n2).1 * (EL n1).2) ((EL n1).2 * (EL n2).2) p q ∧ zFits cu ca p q ∧ zGm cu ca (zUp EL md (p, q)) (md + 1) kd W sD 0 u) ∨ (((0 ≤ n1 ∧ n1 < md) ∧ (0 ≤ n2 ∧ n2 < md)) ∧ md < 120 ∧ (∃ p q, zLow cu ca ((EL n1).1 * (EL n2).2 + (EL n2).1 * (EL n1).2) ((EL n1).2 * (EL n2).2) p q ∧ ¬ zFits cu ca p q) ∧ zGm cu ca EL md kd W sD 2 u)) zr v) : zAg cu ca u.1 v ∧ v.2.2.1 = r ∧ (r = 0 → u.2 0 = lZ zr ∧ -2147483648 ≤ zr ∧ zr < 2147483648) := by
  have hmd := zC_md hC
  rcases hw with ⟨r0, z, hp, hf⟩ | ⟨E, hp, r0⟩
  · obtain ⟨p1, p2, p3, p4, hc⟩ := hp
    rcases hm with ⟨m1, hg⟩ | ⟨m1, m2, hg⟩ | ⟨m1, m2, m3, hr⟩ | ⟨m1, m2, hr, hg⟩
    · exfalso; omega
    · exfalso; omega
    · have hb1 := zNf_ne HU HA (zC_nf hC p1.1 p1.2); have hb2 := zNf_ne HU HA (zC_nf hC p2.1 p2.2); have hbb : (EL n1).2 * (EL n2).2 ≠ 0 := fun e => ((mp_dom HA (mp_dom HU (mp_Fd_nz mp_FP))).1 _ _ e).elim hb1 hb2; exact agN r0 hf (p4.trans m3.symm) (by omega) (ag1 HU HA hJ (by rw [mp_C_1 HU, mp_C_1 HA]; grind) hbb hbb (fun k0 => (by have l1 := (hJ.1 k0).2.2 n1 p1.1 p1.2; have l2 := (hJ.1 k0).2.2 n2 p2.1 p2.2; exact ⟨mp_sz_add HA (zl_mul HA l1.1 l2.2) (zl_mul HA (zl_mul HA (zl_C HA _) l2.1) l1.2), zl_mul HA l1.2 l2.2⟩)) hc hr)
    · have hb1 := zNf_ne HU HA (zC_nf hC p1.1 p1.2); have hb2 := zNf_ne HU HA (zC_nf hC p2.1 p2.2); have hbb : (EL n1).2 * (EL n2).2 ≠ 0 := fun e => ((mp_dom HA (mp_dom HU (mp_Fd_nz mp_FP))).1 _ _ e).elim hb1 hb2; exact (ag2 HU HA hmd.1 (by rw [mp_C_1 HU, mp_C_1 HA]; grind) hbb hbb hc hr).elim
  · obtain ⟨hc, ⟨rfl, e1⟩ | ⟨rfl, e1, e2⟩ | ⟨rfl, e1, e2, he⟩⟩ := hp
    · skip
      rcases hm with ⟨m1, hg⟩ | ⟨m1, m2, hg⟩ | ⟨m1, m2, m3, hr⟩ | ⟨m1, m2, hr, hg⟩
      · exact agE r0 (by decide +kernel) (by decide) (ag0 hc hg hJ)
      · exfalso; omega
      · exfalso; omega
      · exfalso; omega
    · skip
      rcases hm with ⟨m1, hg⟩ | ⟨m1, m2, hg⟩ | ⟨m1, m2, m3, hr⟩ | ⟨m1, m2, hr, hg⟩
      · exfalso; omega
      · exact agE r0 (by decide +kernel) (by decide) (ag0 hc hg hJ)
      · exfalso; omega
      · exfalso; omega
    · skip
      rcases hm with ⟨m1, hg⟩ | ⟨m1, m2, hg⟩ | ⟨m1, m2, m3, hr⟩ | ⟨m1, m2, hr, hg⟩
      · exfalso; omega
      · exfalso; omega
      · have hb1 := zNf_ne HU HA (zC_nf hC e1.1.1 e1.1.2); have hb2 := zNf_ne HU HA (zC_nf hC e1.2.1 e1.2.2); have hbb : (EL n1).2 * (EL n2).2 ≠ 0 := fun e => ((mp_dom HA (mp_dom HU (mp_Fd_nz mp_FP))).1 _ _ e).elim hb1 hb2; exact (ag3 HU HA (by rw [mp_C_1 HU, mp_C_1 HA]; grind) hbb hbb he hr).elim
      · exact agE r0 (by decide +kernel) (by decide) (ag0 hc hg hJ)
theorem ag_less {U V : Type} [Lean.Grind.CommRing U] [Lean.Grind.CommRing V] {cu : U → Nat → FP} {ca : V → Nat → U} (HU : mp_P cu) (HA : mp_P ca) {EL : Int → V × V} {md kd : Int} {sA sB : U} {W sD : V} {S : zS} (hC : zC cu ca EL md kd sA sB S) (hJ : zJt cu ca EL md kd sA sB W sD) {n1 n2 : Int} (bn1 : -2147483648 ≤ n1 ∧ n1 < 2147483648) (bn2 : -2147483648 ≤ n2 ∧ n2 < 2147483648) {r zr : Int} {u : zS × (Nat → Int64)} {v : zM}
    (hw : (r = 0 ∧ ∃ z, (fun z u => (0 ≤ n1 ∧ n1 < md) ∧ (0 ≤ n2 ∧ n2 < md) ∧ md < 120 ∧ z = md ∧ ∃ p q, zC cu ca (zUp EL md (p, q)) (md + 1) kd sA sB u ∧ zLow cu ca ((EL n1).1 * (EL n2).2 + mp_C ca (mp_C cu (-1)) * (EL n2).1 * (EL n1).2) ((EL n1).2 * (EL n2).2) p q) z u.1 ∧ u.2 0 = lZ z) ∨ ∃ E, (fun E u => zC cu ca EL md kd sA sB u ∧ ((E = "java/lang/IndexOutOfBoundsException" ∧ ¬ ((0 ≤ n1 ∧ n1 < md) ∧ (0 ≤ n2 ∧ n2 < md))) ∨ (E = "java/lang/IllegalStateException" ∧ ((0 ≤ n1 ∧ n1 < md) ∧ (0 ≤ n2 ∧ n2 < md)) ∧ ¬ md < 120) ∨ (E = "java/lang/IllegalStateException" ∧ ((0 ≤ n1 ∧ n1 < md) ∧ (0 ≤ n2 ∧ n2 < md)) ∧ md < 120 ∧ ∃ p q, zLow cu ca ((EL n1).1 * (EL n2).2 + mp_C ca (mp_C cu (-1)) * (EL n2).1 * (EL n1).2) ((EL n1).2 * (EL n2).2) p q ∧ ¬ zFits cu ca p q))) E u.1 ∧ r = xc ["java/lang/IndexOutOfBoundsException", "java/lang/IllegalStateException"] E)
    (hm : (fun z u => (¬ ((0 ≤ n1 ∧ n1 < md) ∧ (0 ≤ n2 ∧ n2 < md)) ∧ zGm cu ca EL md kd W sD 1 u) ∨ (((0 ≤ n1 ∧ n1 < md) ∧ (0 ≤ n2 ∧ n2 < md)) ∧ ¬ md < 120 ∧ zGm cu ca EL md kd W sD 2 u) ∨ (((0 ≤ n1 ∧ n1 < md) ∧ (0 ≤ n2 ∧ n2 < md)) ∧ md < 120 ∧ z = md ∧ ∃ p q, zLow cu ca ((EL n1).1 * (EL n2).2 - (EL n2).1 * (EL n1).2) ((EL n1).2 * (EL n2).2) p q ∧ zFits cu ca p q ∧ zGm cu ca (zUp EL md (p, q)) (md + 1) kd W sD 0 u) ∨ (((0 ≤ n1 ∧ n1 < md) ∧ (0 ≤ n2 ∧ n2 < md)) ∧ md < 120 ∧ (∃ p q, zLow cu ca ((EL n1).1 * (EL n2).2 - (EL n2).1 * (EL n1).2) ((EL n1).2 * (EL n2).2) p q ∧ ¬ zFits cu ca p q) ∧ zGm cu ca EL md kd W sD 2 u)) zr v) : zAg cu ca u.1 v ∧ v.2.2.1 = r ∧ (r = 0 → u.2 0 = lZ zr ∧ -2147483648 ≤ zr ∧ zr < 2147483648) := by
  have hmd := zC_md hC
  rcases hw with ⟨r0, z, hp, hf⟩ | ⟨E, hp, r0⟩
  · obtain ⟨p1, p2, p3, p4, hc⟩ := hp
    rcases hm with ⟨m1, hg⟩ | ⟨m1, m2, hg⟩ | ⟨m1, m2, m3, hr⟩ | ⟨m1, m2, hr, hg⟩
    · exfalso; omega
    · exfalso; omega
    · have hb1 := zNf_ne HU HA (zC_nf hC p1.1 p1.2); have hb2 := zNf_ne HU HA (zC_nf hC p2.1 p2.2); have hbb : (EL n1).2 * (EL n2).2 ≠ 0 := fun e => ((mp_dom HA (mp_dom HU (mp_Fd_nz mp_FP))).1 _ _ e).elim hb1 hb2; exact agN r0 hf (p4.trans m3.symm) (by omega) (ag1 HU HA hJ (by rw [mp_C_neg HU, mp_C_1 HU, mp_C_neg HA, mp_C_1 HA]; grind) hbb hbb (fun k0 => (by have l1 := (hJ.1 k0).2.2 n1 p1.1 p1.2; have l2 := (hJ.1 k0).2.2 n2 p2.1 p2.2; exact ⟨mp_sz_add HA (zl_mul HA l1.1 l2.2) (zl_mul HA (zl_mul HA (zl_C HA _) l2.1) l1.2), zl_mul HA l1.2 l2.2⟩)) hc hr)
    · have hb1 := zNf_ne HU HA (zC_nf hC p1.1 p1.2); have hb2 := zNf_ne HU HA (zC_nf hC p2.1 p2.2); have hbb : (EL n1).2 * (EL n2).2 ≠ 0 := fun e => ((mp_dom HA (mp_dom HU (mp_Fd_nz mp_FP))).1 _ _ e).elim hb1 hb2; exact (ag2 HU HA hmd.1 (by rw [mp_C_neg HU, mp_C_1 HU, mp_C_neg HA, mp_C_1 HA]; grind) hbb hbb hc hr).elim
  · obtain ⟨hc, ⟨rfl, e1⟩ | ⟨rfl, e1, e2⟩ | ⟨rfl, e1, e2, he⟩⟩ := hp
    · skip
      rcases hm with ⟨m1, hg⟩ | ⟨m1, m2, hg⟩ | ⟨m1, m2, m3, hr⟩ | ⟨m1, m2, hr, hg⟩
      · exact agE r0 (by decide +kernel) (by decide) (ag0 hc hg hJ)
      · exfalso; omega
      · exfalso; omega
      · exfalso; omega
    · skip
      rcases hm with ⟨m1, hg⟩ | ⟨m1, m2, hg⟩ | ⟨m1, m2, m3, hr⟩ | ⟨m1, m2, hr, hg⟩
      · exfalso; omega
      · exact agE r0 (by decide +kernel) (by decide) (ag0 hc hg hJ)
      · exfalso; omega
      · exfalso; omega
    · skip
      rcases hm with ⟨m1, hg⟩ | ⟨m1, m2, hg⟩ | ⟨m1, m2, m3, hr⟩ | ⟨m1, m2, hr, hg⟩
      · exfalso; omega
      · exfalso; omega
      · have hb1 := zNf_ne HU HA (zC_nf hC e1.1.1 e1.1.2); have hb2 := zNf_ne HU HA (zC_nf hC e1.2.1 e1.2.2); have hbb : (EL n1).2 * (EL n2).2 ≠ 0 := fun e => ((mp_dom HA (mp_dom HU (mp_Fd_nz mp_FP))).1 _ _ e).elim hb1 hb2; exact (ag3 HU HA (by rw [mp_C_neg HU, mp_C_1 HU, mp_C_neg HA, mp_C_1 HA]; grind) hbb hbb he hr).elim
      · exact agE r0 (by decide +kernel) (by decide) (ag0 hc hg hJ)
theorem ag_times {U V : Type} [Lean.Grind.CommRing U] [Lean.Grind.CommRing V] {cu : U → Nat → FP} {ca : V → Nat → U} (HU : mp_P cu) (HA : mp_P ca) {EL : Int → V × V} {md kd : Int} {sA sB : U} {W sD : V} {S : zS} (hC : zC cu ca EL md kd sA sB S) (hJ : zJt cu ca EL md kd sA sB W sD) {n1 n2 : Int} (bn1 : -2147483648 ≤ n1 ∧ n1 < 2147483648) (bn2 : -2147483648 ≤ n2 ∧ n2 < 2147483648) {r zr : Int} {u : zS × (Nat → Int64)} {v : zM}
    (hw : (r = 0 ∧ ∃ z, (fun z u => (0 ≤ n1 ∧ n1 < md) ∧ (0 ≤ n2 ∧ n2 < md) ∧ md < 120 ∧ z = md ∧ ∃ p q, zC cu ca (zUp EL md (p, q)) (md + 1) kd sA sB u ∧ zLow cu ca ((EL n1).1 * (EL n2).1) ((EL n1).2 * (EL n2).2) p q) z u.1 ∧ u.2 0 = lZ z) ∨ ∃ E, (fun E u => zC cu ca EL md kd sA sB u ∧ ((E = "java/lang/IndexOutOfBoundsException" ∧ ¬ ((0 ≤ n1 ∧ n1 < md) ∧ (0 ≤ n2 ∧ n2 < md))) ∨ (E = "java/lang/IllegalStateException" ∧ ((0 ≤ n1 ∧ n1 < md) ∧ (0 ≤ n2 ∧ n2 < md)) ∧ ¬ md < 120) ∨ (E = "java/lang/IllegalStateException" ∧ ((0 ≤ n1 ∧ n1 < md) ∧ (0 ≤ n2 ∧ n2 < md)) ∧ md < 120 ∧ ∃ p q, zLow cu ca ((EL n1).1 * (EL n2).1) ((EL n1).2 * (EL n2).2) p q ∧ ¬ zFits cu ca p q))) E u.1 ∧ r = xc ["java/lang/IndexOutOfBoundsException", "java/lang/IllegalStateException"] E)
    (hm : (fun z u => (¬ ((0 ≤ n1 ∧ n1 < md) ∧ (0 ≤ n2 ∧ n2 < md)) ∧ zGm cu ca EL md kd W sD 1 u) ∨ (((0 ≤ n1 ∧ n1 < md) ∧ (0 ≤ n2 ∧ n2 < md)) ∧ ¬ md < 120 ∧ zGm cu ca EL md kd W sD 2 u) ∨ (((0 ≤ n1 ∧ n1 < md) ∧ (0 ≤ n2 ∧ n2 < md)) ∧ md < 120 ∧ z = md ∧ ∃ p q, zLow cu ca ((EL n1).1 * (EL n2).1) ((EL n1).2 * (EL n2).2) p q ∧ zFits cu ca p q ∧ zGm cu ca (zUp EL md (p, q)) (md + 1) kd W sD 0 u) ∨ (((0 ≤ n1 ∧ n1 < md) ∧ (0 ≤ n2 ∧ n2 < md)) ∧ md < 120 ∧ (∃ p q, zLow cu ca ((EL n1).1 * (EL n2).1) ((EL n1).2 * (EL n2).2) p q ∧ ¬ zFits cu ca p q) ∧ zGm cu ca EL md kd W sD 2 u)) zr v) : zAg cu ca u.1 v ∧ v.2.2.1 = r ∧ (r = 0 → u.2 0 = lZ zr ∧ -2147483648 ≤ zr ∧ zr < 2147483648) := by
  have hmd := zC_md hC
  rcases hw with ⟨r0, z, hp, hf⟩ | ⟨E, hp, r0⟩
  · obtain ⟨p1, p2, p3, p4, hc⟩ := hp
    rcases hm with ⟨m1, hg⟩ | ⟨m1, m2, hg⟩ | ⟨m1, m2, m3, hr⟩ | ⟨m1, m2, hr, hg⟩
    · exfalso; omega
    · exfalso; omega
    · have hb1 := zNf_ne HU HA (zC_nf hC p1.1 p1.2); have hb2 := zNf_ne HU HA (zC_nf hC p2.1 p2.2); have hbb : (EL n1).2 * (EL n2).2 ≠ 0 := fun e => ((mp_dom HA (mp_dom HU (mp_Fd_nz mp_FP))).1 _ _ e).elim hb1 hb2; exact agN r0 hf (p4.trans m3.symm) (by omega) (ag1 HU HA hJ (rfl) hbb hbb (fun k0 => (by have l1 := (hJ.1 k0).2.2 n1 p1.1 p1.2; have l2 := (hJ.1 k0).2.2 n2 p2.1 p2.2; exact ⟨zl_mul HA l1.1 l2.1, zl_mul HA l1.2 l2.2⟩)) hc hr)
    · have hb1 := zNf_ne HU HA (zC_nf hC p1.1 p1.2); have hb2 := zNf_ne HU HA (zC_nf hC p2.1 p2.2); have hbb : (EL n1).2 * (EL n2).2 ≠ 0 := fun e => ((mp_dom HA (mp_dom HU (mp_Fd_nz mp_FP))).1 _ _ e).elim hb1 hb2; exact (ag2 HU HA hmd.1 (rfl) hbb hbb hc hr).elim
  · obtain ⟨hc, ⟨rfl, e1⟩ | ⟨rfl, e1, e2⟩ | ⟨rfl, e1, e2, he⟩⟩ := hp
    · skip
      rcases hm with ⟨m1, hg⟩ | ⟨m1, m2, hg⟩ | ⟨m1, m2, m3, hr⟩ | ⟨m1, m2, hr, hg⟩
      · exact agE r0 (by decide +kernel) (by decide) (ag0 hc hg hJ)
      · exfalso; omega
      · exfalso; omega
      · exfalso; omega
    · skip
      rcases hm with ⟨m1, hg⟩ | ⟨m1, m2, hg⟩ | ⟨m1, m2, m3, hr⟩ | ⟨m1, m2, hr, hg⟩
      · exfalso; omega
      · exact agE r0 (by decide +kernel) (by decide) (ag0 hc hg hJ)
      · exfalso; omega
      · exfalso; omega
    · skip
      rcases hm with ⟨m1, hg⟩ | ⟨m1, m2, hg⟩ | ⟨m1, m2, m3, hr⟩ | ⟨m1, m2, hr, hg⟩
      · exfalso; omega
      · exfalso; omega
      · have hb1 := zNf_ne HU HA (zC_nf hC e1.1.1 e1.1.2); have hb2 := zNf_ne HU HA (zC_nf hC e1.2.1 e1.2.2); have hbb : (EL n1).2 * (EL n2).2 ≠ 0 := fun e => ((mp_dom HA (mp_dom HU (mp_Fd_nz mp_FP))).1 _ _ e).elim hb1 hb2; exact (ag3 HU HA (rfl) hbb hbb he hr).elim
      · exact agE r0 (by decide +kernel) (by decide) (ag0 hc hg hJ)
theorem ag_over {U V : Type} [Lean.Grind.CommRing U] [Lean.Grind.CommRing V] {cu : U → Nat → FP} {ca : V → Nat → U} (HU : mp_P cu) (HA : mp_P ca) {EL : Int → V × V} {md kd : Int} {sA sB : U} {W sD : V} {S : zS} (hC : zC cu ca EL md kd sA sB S) (hJ : zJt cu ca EL md kd sA sB W sD) {n1 n2 : Int} (bn1 : -2147483648 ≤ n1 ∧ n1 < 2147483648) (bn2 : -2147483648 ≤ n2 ∧ n2 < 2147483648) {r zr : Int} {u : zS × (Nat → Int64)} {v : zM}
    (hw : (r = 0 ∧ ∃ z, (fun z u => (0 ≤ n1 ∧ n1 < md) ∧ (0 ≤ n2 ∧ n2 < md) ∧ md < 120 ∧ ((z = -1 ∧ (EL n2).1 = 0 ∧ zC cu ca EL md kd sA sB u) ∨ ((EL n2).1 ≠ 0 ∧ z = md ∧ ∃ p q, zC cu ca (zUp EL md (p, q)) (md + 1) kd sA sB u ∧ zLow cu ca ((EL n1).1 * (EL n2).2) ((EL n1).2 * (EL n2).1) p q))) z u.1 ∧ u.2 0 = lZ z) ∨ ∃ E, (fun E u => zC cu ca EL md kd sA sB u ∧ ((E = "java/lang/IndexOutOfBoundsException" ∧ ¬ ((0 ≤ n1 ∧ n1 < md) ∧ (0 ≤ n2 ∧ n2 < md))) ∨ (E = "java/lang/IllegalStateException" ∧ ((0 ≤ n1 ∧ n1 < md) ∧ (0 ≤ n2 ∧ n2 < md)) ∧ ¬ md < 120) ∨ (E = "java/lang/IllegalStateException" ∧ ((0 ≤ n1 ∧ n1 < md) ∧ (0 ≤ n2 ∧ n2 < md)) ∧ md < 120 ∧ (EL n2).1 ≠ 0 ∧ ∃ p q, zLow cu ca ((EL n1).1 * (EL n2).2) ((EL n1).2 * (EL n2).1) p q ∧ ¬ zFits cu ca p q))) E u.1 ∧ r = xc ["java/lang/IndexOutOfBoundsException", "java/lang/IllegalStateException"] E)
    (hm : (fun z u => (¬ ((0 ≤ n1 ∧ n1 < md) ∧ (0 ≤ n2 ∧ n2 < md)) ∧ zGm cu ca EL md kd W sD 1 u) ∨ (((0 ≤ n1 ∧ n1 < md) ∧ (0 ≤ n2 ∧ n2 < md)) ∧ ¬ md < 120 ∧ zGm cu ca EL md kd W sD 2 u) ∨ (((0 ≤ n1 ∧ n1 < md) ∧ (0 ≤ n2 ∧ n2 < md)) ∧ md < 120 ∧ (EL n2).1 ≠ 0 ∧ z = md ∧ ∃ p q, zLow cu ca ((EL n1).1 * (EL n2).2) ((EL n1).2 * (EL n2).1) p q ∧ zFits cu ca p q ∧ zGm cu ca (zUp EL md (p, q)) (md + 1) kd W sD 0 u) ∨ (((0 ≤ n1 ∧ n1 < md) ∧ (0 ≤ n2 ∧ n2 < md)) ∧ md < 120 ∧ (EL n2).1 ≠ 0 ∧ (∃ p q, zLow cu ca ((EL n1).1 * (EL n2).2) ((EL n1).2 * (EL n2).1) p q ∧ ¬ zFits cu ca p q) ∧ zGm cu ca EL md kd W sD 2 u) ∨ (((0 ≤ n1 ∧ n1 < md) ∧ (0 ≤ n2 ∧ n2 < md)) ∧ md < 120 ∧ (EL n2).1 = 0 ∧ z = -1 ∧ zGm cu ca EL md kd W sD 0 u)) zr v) : zAg cu ca u.1 v ∧ v.2.2.1 = r ∧ (r = 0 → u.2 0 = lZ zr ∧ -2147483648 ≤ zr ∧ zr < 2147483648) := by
  have hmd := zC_md hC
  rcases hw with ⟨r0, z, hp, hf⟩ | ⟨E, hp, r0⟩
  · obtain ⟨p1, p2, p3, ⟨p4, p5, hc⟩ | ⟨p5, p4, hc⟩⟩ := hp
    · skip
      rcases hm with ⟨m1, hg⟩ | ⟨m1, m2, hg⟩ | ⟨m1, m2, m4, m3, hr⟩ | ⟨m1, m2, m4, hr, hg⟩ | ⟨m1, m2, m4, m3, hg⟩
      · exfalso; omega
      · exfalso; omega
      · exact absurd p5 m4
      · exact absurd p5 m4
      · exact agN r0 hf (p4.trans m3.symm) (by omega) (ag0 hc hg hJ)
    · skip
      rcases hm with ⟨m1, hg⟩ | ⟨m1, m2, hg⟩ | ⟨m1, m2, m4, m3, hr⟩ | ⟨m1, m2, m4, hr, hg⟩ | ⟨m1, m2, m4, m3, hg⟩
      · exfalso; omega
      · exfalso; omega
      · have hb1 := zNf_ne HU HA (zC_nf hC p1.1 p1.2); have hbb : (EL n1).2 * (EL n2).1 ≠ 0 := fun e => ((mp_dom HA (mp_dom HU (mp_Fd_nz mp_FP))).1 _ _ e).elim hb1 p5; exact agN r0 hf (p4.trans m3.symm) (by omega) (ag1 HU HA hJ rfl hbb hbb (fun k0 => (by have l1 := (hJ.1 k0).2.2 n1 p1.1 p1.2; have l2 := (hJ.1 k0).2.2 n2 p2.1 p2.2; exact ⟨zl_mul HA l1.1 l2.2, zl_mul HA l1.2 l2.1⟩)) hc hr)
      · have hb1 := zNf_ne HU HA (zC_nf hC p1.1 p1.2); have hbb : (EL n1).2 * (EL n2).1 ≠ 0 := fun e => ((mp_dom HA (mp_dom HU (mp_Fd_nz mp_FP))).1 _ _ e).elim hb1 p5; exact (ag2 HU HA hmd.1 rfl hbb hbb hc hr).elim
      · exact absurd m4 p5
  · obtain ⟨hc, ⟨rfl, e1⟩ | ⟨rfl, e1, e2⟩ | ⟨rfl, e1, e2, e4, he⟩⟩ := hp
    · skip
      rcases hm with ⟨m1, hg⟩ | ⟨m1, m2, hg⟩ | ⟨m1, m2, m4, m3, hr⟩ | ⟨m1, m2, m4, hr, hg⟩ | ⟨m1, m2, m4, m3, hg⟩
      · exact agE r0 (by decide +kernel) (by decide) (ag0 hc hg hJ)
      · exfalso; omega
      · exfalso; omega
      · exfalso; omega
      · exfalso; omega
    · skip
      rcases hm with ⟨m1, hg⟩ | ⟨m1, m2, hg⟩ | ⟨m1, m2, m4, m3, hr⟩ | ⟨m1, m2, m4, hr, hg⟩ | ⟨m1, m2, m4, m3, hg⟩
      · exfalso; omega
      · exact agE r0 (by decide +kernel) (by decide) (ag0 hc hg hJ)
      · exfalso; omega
      · exfalso; omega
      · exfalso; omega
    · skip
      rcases hm with ⟨m1, hg⟩ | ⟨m1, m2, hg⟩ | ⟨m1, m2, m4, m3, hr⟩ | ⟨m1, m2, m4, hr, hg⟩ | ⟨m1, m2, m4, m3, hg⟩
      · exfalso; omega
      · exfalso; omega
      · have hb1 := zNf_ne HU HA (zC_nf hC e1.1.1 e1.1.2); have hbb : (EL n1).2 * (EL n2).1 ≠ 0 := fun e => ((mp_dom HA (mp_dom HU (mp_Fd_nz mp_FP))).1 _ _ e).elim hb1 e4; exact (ag3 HU HA rfl hbb hbb he hr).elim
      · exact agE r0 (by decide +kernel) (by decide) (ag0 hc hg hJ)
      · exact absurd m4 e4
theorem ag_derive {U V : Type} [Lean.Grind.CommRing U] [Lean.Grind.CommRing V] {cu : U → Nat → FP} {ca : V → Nat → U} (HU : mp_P cu) (HA : mp_P ca) {EL : Int → V × V} {md kd : Int} {sA sB : U} {W sD : V} {S : zS} (hC : zC cu ca EL md kd sA sB S) (hJ : zJt cu ca EL md kd sA sB W sD) {n : Int} (bn : -2147483648 ≤ n ∧ n < 2147483648) {r zr : Int} {u : zS × (Nat → Int64)} {v : zM}
    (hw : (r = 0 ∧ ∃ z, (fun z u => (0 ≤ n ∧ n < md) ∧ md < 120 ∧ z = md ∧ ∃ p q, zC cu ca (zUp EL md (p, q)) (md + 1) kd sA sB u ∧ zLow cu ca (md_E cu ca sB (zW ca kd sA) (EL n).1 * (EL n).2 - md_E cu ca sB (zW ca kd sA) (EL n).2 * (EL n).1) (mp_C ca sB * ((EL n).2 * (EL n).2)) p q) z u.1 ∧ u.2 0 = lZ z) ∨ ∃ E, (fun E u => zC cu ca EL md kd sA sB u ∧ ((E = "java/lang/IndexOutOfBoundsException" ∧ ¬ (0 ≤ n ∧ n < md)) ∨ (E = "java/lang/IllegalStateException" ∧ (0 ≤ n ∧ n < md) ∧ ¬ md < 120) ∨ (E = "java/lang/IllegalStateException" ∧ (0 ≤ n ∧ n < md) ∧ md < 120 ∧ ∃ p q, zLow cu ca (md_E cu ca sB (zW ca kd sA) (EL n).1 * (EL n).2 - md_E cu ca sB (zW ca kd sA) (EL n).2 * (EL n).1) (mp_C ca sB * ((EL n).2 * (EL n).2)) p q ∧ ¬ zFits cu ca p q))) E u.1 ∧ r = xc ["java/lang/IndexOutOfBoundsException", "java/lang/IllegalStateException"] E)
    (hm : (fun z u => (¬ (0 ≤ n ∧ n < md) ∧ zGm cu ca EL md kd W sD 1 u) ∨ ((0 ≤ n ∧ n < md) ∧ ¬ md < 120 ∧ zGm cu ca EL md kd W sD 2 u) ∨ ((0 ≤ n ∧ n < md) ∧ md < 120 ∧ z = md ∧ ∃ p q, zLow cu ca (mR cu ca kd W sD (EL n).1 * (EL n).2 - mR cu ca kd W sD (EL n).2 * (EL n).1) (mF kd sD ((EL n).2 * (EL n).2)) p q ∧ zFits cu ca p q ∧ zGm cu ca (zUp EL md (p, q)) (md + 1) kd W sD 0 u) ∨ ((0 ≤ n ∧ n < md) ∧ md < 120 ∧ (∃ p q, zLow cu ca (mR cu ca kd W sD (EL n).1 * (EL n).2 - mR cu ca kd W sD (EL n).2 * (EL n).1) (mF kd sD ((EL n).2 * (EL n).2)) p q ∧ ¬ zFits cu ca p q) ∧ zGm cu ca EL md kd W sD 2 u)) zr v) : zAg cu ca u.1 v ∧ v.2.2.1 = r ∧ (r = 0 → u.2 0 = lZ zr ∧ -2147483648 ≤ zr ∧ zr < 2147483648) := by
  have hmd := zC_md hC
  rcases hw with ⟨r0, z, hp, hf⟩ | ⟨E, hp, r0⟩
  · obtain ⟨p1, p3, p4, hc⟩ := hp
    rcases hm with ⟨m1, hg⟩ | ⟨m1, m2, hg⟩ | ⟨m1, m2, m3, hr⟩ | ⟨m1, m2, hr, hg⟩
    · exfalso; omega
    · exfalso; omega
    · have hb1 := zNf_ne HU HA (zC_nf hC p1.1 p1.2); have hbb : (EL n).2 * (EL n).2 ≠ 0 := fun e => ((mp_dom HA (mp_dom HU (mp_Fd_nz mp_FP))).1 _ _ e).elim hb1 hb1; have hF := ag_F HU HA hJ hbb; exact agN r0 hf (p4.trans m3.symm) (by omega) (ag1 HU HA hJ (ag_X HU HA hJ _ _ _) hF.2 hF.1 (fun k0 => (by have l1 := (hJ.1 k0).2.2 n p1.1 p1.2; exact ag_Xl HU HA hJ k0 l1.1 l1.2 (zl_mul HA l1.2 l1.2))) hc hr)
    · have hb1 := zNf_ne HU HA (zC_nf hC p1.1 p1.2); have hbb : (EL n).2 * (EL n).2 ≠ 0 := fun e => ((mp_dom HA (mp_dom HU (mp_Fd_nz mp_FP))).1 _ _ e).elim hb1 hb1; have hF := ag_F HU HA hJ hbb; exact (ag2 HU HA hmd.1 (ag_X HU HA hJ _ _ _) hF.2 hF.1 hc hr).elim
  · obtain ⟨hc, ⟨rfl, e1⟩ | ⟨rfl, e1, e2⟩ | ⟨rfl, e1, e2, he⟩⟩ := hp
    · skip
      rcases hm with ⟨m1, hg⟩ | ⟨m1, m2, hg⟩ | ⟨m1, m2, m3, hr⟩ | ⟨m1, m2, hr, hg⟩
      · exact agE r0 (by decide +kernel) (by decide) (ag0 hc hg hJ)
      · exfalso; omega
      · exfalso; omega
      · exfalso; omega
    · skip
      rcases hm with ⟨m1, hg⟩ | ⟨m1, m2, hg⟩ | ⟨m1, m2, m3, hr⟩ | ⟨m1, m2, hr, hg⟩
      · exfalso; omega
      · exact agE r0 (by decide +kernel) (by decide) (ag0 hc hg hJ)
      · exfalso; omega
      · exfalso; omega
    · skip
      rcases hm with ⟨m1, hg⟩ | ⟨m1, m2, hg⟩ | ⟨m1, m2, m3, hr⟩ | ⟨m1, m2, hr, hg⟩
      · exfalso; omega
      · exfalso; omega
      · have hb1 := zNf_ne HU HA (zC_nf hC e1.1 e1.2); have hbb : (EL n).2 * (EL n).2 ≠ 0 := fun e => ((mp_dom HA (mp_dom HU (mp_Fd_nz mp_FP))).1 _ _ e).elim hb1 hb1; have hF := ag_F HU HA hJ hbb; exact (ag3 HU HA (ag_X HU HA hJ _ _ _) hF.2 hF.1 he hr).elim
      · exact agE r0 (by decide +kernel) (by decide) (ag0 hc hg hJ)
theorem ag_logarithmic {U V : Type} [Lean.Grind.CommRing U] [Lean.Grind.CommRing V] {cu : U → Nat → FP} {ca : V → Nat → U} (HU : mp_P cu) (HA : mp_P ca) {EL : Int → V × V} {md kd : Int} {sA sB : U} {W sD : V} {S : zS} (hC : zC cu ca EL md kd sA sB S) (hJ : zJt cu ca EL md kd sA sB W sD) {n : Int} (bn : -2147483648 ≤ n ∧ n < 2147483648) {r zr : Int} {u : zS × (Nat → Int64)} {v : zM}
    (hw : (r = 0 ∧ ∃ z, (fun z u => (0 ≤ n ∧ n < md) ∧ md < 120 ∧ ((z = -1 ∧ (EL n).1 = 0 ∧ zC cu ca EL md kd sA sB u) ∨ ((EL n).1 ≠ 0 ∧ z = md ∧ ∃ p q, zC cu ca (zUp EL md (p, q)) (md + 1) kd sA sB u ∧ zLow cu ca (md_E cu ca sB (zW ca kd sA) (EL n).1 * (EL n).2 - md_E cu ca sB (zW ca kd sA) (EL n).2 * (EL n).1) (mp_C ca sB * ((EL n).1 * (EL n).2)) p q))) z u.1 ∧ u.2 0 = lZ z) ∨ ∃ E, (fun E u => zC cu ca EL md kd sA sB u ∧ ((E = "java/lang/IndexOutOfBoundsException" ∧ ¬ (0 ≤ n ∧ n < md)) ∨ (E = "java/lang/IllegalStateException" ∧ (0 ≤ n ∧ n < md) ∧ ¬ md < 120) ∨ (E = "java/lang/IllegalStateException" ∧ (0 ≤ n ∧ n < md) ∧ md < 120 ∧ (EL n).1 ≠ 0 ∧ ∃ p q, zLow cu ca (md_E cu ca sB (zW ca kd sA) (EL n).1 * (EL n).2 - md_E cu ca sB (zW ca kd sA) (EL n).2 * (EL n).1) (mp_C ca sB * ((EL n).1 * (EL n).2)) p q ∧ ¬ zFits cu ca p q))) E u.1 ∧ r = xc ["java/lang/IndexOutOfBoundsException", "java/lang/IllegalStateException"] E)
    (hm : (fun z u => (¬ (0 ≤ n ∧ n < md) ∧ zGm cu ca EL md kd W sD 1 u) ∨ ((0 ≤ n ∧ n < md) ∧ ¬ md < 120 ∧ zGm cu ca EL md kd W sD 2 u) ∨ ((0 ≤ n ∧ n < md) ∧ md < 120 ∧ (EL n).1 ≠ 0 ∧ z = md ∧ ∃ p q, zLow cu ca (mR cu ca kd W sD (EL n).1 * (EL n).2 - mR cu ca kd W sD (EL n).2 * (EL n).1) (mF kd sD ((EL n).1 * (EL n).2)) p q ∧ zFits cu ca p q ∧ zGm cu ca (zUp EL md (p, q)) (md + 1) kd W sD 0 u) ∨ ((0 ≤ n ∧ n < md) ∧ md < 120 ∧ (EL n).1 ≠ 0 ∧ (∃ p q, zLow cu ca (mR cu ca kd W sD (EL n).1 * (EL n).2 - mR cu ca kd W sD (EL n).2 * (EL n).1) (mF kd sD ((EL n).1 * (EL n).2)) p q ∧ ¬ zFits cu ca p q) ∧ zGm cu ca EL md kd W sD 2 u) ∨ ((0 ≤ n ∧ n < md) ∧ md < 120 ∧ (EL n).1 = 0 ∧ z = -1 ∧ zGm cu ca EL md kd W sD 0 u)) zr v) : zAg cu ca u.1 v ∧ v.2.2.1 = r ∧ (r = 0 → u.2 0 = lZ zr ∧ -2147483648 ≤ zr ∧ zr < 2147483648) := by
  have hmd := zC_md hC
  rcases hw with ⟨r0, z, hp, hf⟩ | ⟨E, hp, r0⟩
  · obtain ⟨p1, p3, ⟨p4, p5, hc⟩ | ⟨p5, p4, hc⟩⟩ := hp
    · skip
      rcases hm with ⟨m1, hg⟩ | ⟨m1, m2, hg⟩ | ⟨m1, m2, m4, m3, hr⟩ | ⟨m1, m2, m4, hr, hg⟩ | ⟨m1, m2, m4, m3, hg⟩
      · exfalso; omega
      · exfalso; omega
      · exact absurd p5 m4
      · exact absurd p5 m4
      · exact agN r0 hf (p4.trans m3.symm) (by omega) (ag0 hc hg hJ)
    · skip
      rcases hm with ⟨m1, hg⟩ | ⟨m1, m2, hg⟩ | ⟨m1, m2, m4, m3, hr⟩ | ⟨m1, m2, m4, hr, hg⟩ | ⟨m1, m2, m4, m3, hg⟩
      · exfalso; omega
      · exfalso; omega
      · have hb1 := zNf_ne HU HA (zC_nf hC p1.1 p1.2); have hbb : (EL n).1 * (EL n).2 ≠ 0 := fun e => ((mp_dom HA (mp_dom HU (mp_Fd_nz mp_FP))).1 _ _ e).elim p5 hb1; have hF := ag_F HU HA hJ hbb; exact agN r0 hf (p4.trans m3.symm) (by omega) (ag1 HU HA hJ (ag_X HU HA hJ _ _ _) hF.2 hF.1 (fun k0 => (by have l1 := (hJ.1 k0).2.2 n p1.1 p1.2; exact ag_Xl HU HA hJ k0 l1.1 l1.2 (zl_mul HA l1.1 l1.2))) hc hr)
      · have hb1 := zNf_ne HU HA (zC_nf hC p1.1 p1.2); have hbb : (EL n).1 * (EL n).2 ≠ 0 := fun e => ((mp_dom HA (mp_dom HU (mp_Fd_nz mp_FP))).1 _ _ e).elim p5 hb1; have hF := ag_F HU HA hJ hbb; exact (ag2 HU HA hmd.1 (ag_X HU HA hJ _ _ _) hF.2 hF.1 hc hr).elim
      · exact absurd m4 p5
  · obtain ⟨hc, ⟨rfl, e1⟩ | ⟨rfl, e1, e2⟩ | ⟨rfl, e1, e2, e4, he⟩⟩ := hp
    · skip
      rcases hm with ⟨m1, hg⟩ | ⟨m1, m2, hg⟩ | ⟨m1, m2, m4, m3, hr⟩ | ⟨m1, m2, m4, hr, hg⟩ | ⟨m1, m2, m4, m3, hg⟩
      · exact agE r0 (by decide +kernel) (by decide) (ag0 hc hg hJ)
      · exfalso; omega
      · exfalso; omega
      · exfalso; omega
      · exfalso; omega
    · skip
      rcases hm with ⟨m1, hg⟩ | ⟨m1, m2, hg⟩ | ⟨m1, m2, m4, m3, hr⟩ | ⟨m1, m2, m4, hr, hg⟩ | ⟨m1, m2, m4, m3, hg⟩
      · exfalso; omega
      · exact agE r0 (by decide +kernel) (by decide) (ag0 hc hg hJ)
      · exfalso; omega
      · exfalso; omega
      · exfalso; omega
    · skip
      rcases hm with ⟨m1, hg⟩ | ⟨m1, m2, hg⟩ | ⟨m1, m2, m4, m3, hr⟩ | ⟨m1, m2, m4, hr, hg⟩ | ⟨m1, m2, m4, m3, hg⟩
      · exfalso; omega
      · exfalso; omega
      · have hb1 := zNf_ne HU HA (zC_nf hC e1.1 e1.2); have hbb : (EL n).1 * (EL n).2 ≠ 0 := fun e => ((mp_dom HA (mp_dom HU (mp_Fd_nz mp_FP))).1 _ _ e).elim e4 hb1; have hF := ag_F HU HA hJ hbb; exact (ag3 HU HA (ag_X HU HA hJ _ _ _) hF.2 hF.1 he hr).elim
      · exact agE r0 (by decide +kernel) (by decide) (ag0 hc hg hJ)
      · exact absurd m4 e4
theorem ag_number {U V : Type} [Lean.Grind.CommRing U] [Lean.Grind.CommRing V] {cu : U → Nat → FP} {ca : V → Nat → U} (HU : mp_P cu) (HA : mp_P ca) {EL : Int → V × V} {md kd : Int} {sA sB : U} {W sD : V} {S : zS} (hC : zC cu ca EL md kd sA sB S) (hJ : zJt cu ca EL md kd sA sB W sD) {a b : Int}  {r zr : Int} {u : zS × (Nat → Int64)} {v : zM}
    (hw : (r = 0 ∧ ∃ z, (fun z u => z = md ∧ md < 120 ∧ zC cu ca (zUp EL md (mp_m ca (mp_m cu (mI a * mf_inv (mI b)) 0) 0, 1)) (md + 1) kd sA sB u ∧ mI b ≠ 0) z u.1 ∧ u.2 0 = lZ z) ∨ ∃ E, (fun E u => zC cu ca EL md kd sA sB u ∧ ((E = "java/lang/IllegalStateException" ∧ ¬ md < 120) ∨ (E = "java/lang/ArithmeticException" ∧ md < 120 ∧ mI b = 0))) E u.1 ∧ r = xc ["java/lang/IllegalStateException", "java/lang/ArithmeticException"] E)
    (hm : (fun z u => (¬ md < 120 ∧ zGm cu ca EL md kd W sD 1 u) ∨ (md < 120 ∧ mI b = 0 ∧ zGm cu ca EL md kd W sD 2 u) ∨ (md < 120 ∧ mI b ≠ 0 ∧ z = md ∧ zGm cu ca (zUp EL md (mp_m ca (mp_m cu (mI a * mf_inv (mI b)) 0) 0, 1)) (md + 1) kd W sD 0 u)) zr v) : zAg cu ca u.1 v ∧ v.2.2.1 = r ∧ (r = 0 → u.2 0 = lZ zr ∧ -2147483648 ≤ zr ∧ zr < 2147483648) := by
  have hmd := zC_md hC
  rcases hw with ⟨r0, z, hp, hf⟩ | ⟨E, hp, r0⟩
  · obtain ⟨p1, p2, p3, p4⟩ := hp
    rcases hm with ⟨m1, hg⟩ | ⟨m1, m2, hg⟩ | ⟨m1, m2, m3, hg⟩
    · exfalso; omega
    · exact absurd m2 p4
    · exact agN r0 hf (p1.trans m3.symm) (by omega) (ag0 p3 hg (zJ_up hJ (fun k0 => ⟨Nat.le_trans (mp_sz_m HA _ _) (by omega), zl_1 HA⟩)))
  · obtain ⟨hc, ⟨rfl, e1⟩ | ⟨rfl, e1, e2⟩⟩ := hp
    · skip
      rcases hm with ⟨m1, hg⟩ | ⟨m1, m2, hg⟩ | ⟨m1, m2, m3, hg⟩
      · exact agE r0 (by decide +kernel) (by decide) (ag0 hc hg hJ)
      · exfalso; omega
      · exfalso; omega
    · skip
      rcases hm with ⟨m1, hg⟩ | ⟨m1, m2, hg⟩ | ⟨m1, m2, m3, hg⟩
      · exfalso; omega
      · exact agE r0 (by decide +kernel) (by decide) (ag0 hc hg hJ)
      · exact absurd e2 m2
theorem ag_base {U V : Type} [Lean.Grind.CommRing U] [Lean.Grind.CommRing V] {cu : U → Nat → FP} {ca : V → Nat → U} (HU : mp_P cu) (HA : mp_P ca) {EL : Int → V × V} {md kd : Int} {sA sB : U} {W sD : V} {S : zS} (hC : zC cu ca EL md kd sA sB S) (hJ : zJt cu ca EL md kd sA sB W sD)  {r zr : Int} {u : zS × (Nat → Int64)} {v : zM}
    (hw : (r = 0 ∧ ∃ z, (fun z u => z = md ∧ md < 120 ∧ zC cu ca (zUp EL md (mp_m ca (mp_m cu 1 1) 0, 1)) (md + 1) kd sA sB u) z u.1 ∧ u.2 0 = lZ z) ∨ ∃ E, (fun E u => zC cu ca EL md kd sA sB u ∧ E = "java/lang/IllegalStateException" ∧ ¬ md < 120) E u.1 ∧ r = xc ["java/lang/IllegalStateException"] E)
    (hm : (fun z u => (¬ md < 120 ∧ zGm cu ca EL md kd W sD 1 u) ∨ (md < 120 ∧ z = md ∧ zGm cu ca (zUp EL md (mp_m ca (mp_m cu 1 1) 0, 1)) (md + 1) kd W sD 0 u)) zr v) : zAg cu ca u.1 v ∧ v.2.2.1 = r ∧ (r = 0 → u.2 0 = lZ zr ∧ -2147483648 ≤ zr ∧ zr < 2147483648) := by
  have hmd := zC_md hC
  rcases hw with ⟨r0, z, hp, hf⟩ | ⟨E, hp, r0⟩
  · obtain ⟨p1, p2, p3⟩ := hp
    rcases hm with ⟨m1, hg⟩ | ⟨m1, m3, hg⟩
    · exfalso; omega
    · exact agN r0 hf (p1.trans m3.symm) (by omega) (ag0 p3 hg (zJ_up hJ (fun k0 => ⟨Nat.le_trans (mp_sz_m HA _ _) (by omega), zl_1 HA⟩)))
  · obtain ⟨hc, rfl, e1⟩ := hp
    rcases hm with ⟨m1, hg⟩ | ⟨m1, m3, hg⟩
    · exact agE r0 (by decide +kernel) (by decide) (ag0 hc hg hJ)
    · exfalso; omega
theorem ag_top {U V : Type} [Lean.Grind.CommRing U] [Lean.Grind.CommRing V] {cu : U → Nat → FP} {ca : V → Nat → U} (HU : mp_P cu) (HA : mp_P ca) {EL : Int → V × V} {md kd : Int} {sA sB : U} {W sD : V} {S : zS} (hC : zC cu ca EL md kd sA sB S) (hJ : zJt cu ca EL md kd sA sB W sD)  {r zr : Int} {u : zS × (Nat → Int64)} {v : zM}
    (hw : (r = 0 ∧ ∃ z, (fun z u => z = md ∧ md < 120 ∧ zC cu ca (zUp EL md (mp_m ca (mp_m cu 1 0) 1, 1)) (md + 1) kd sA sB u ∧ kd ≠ 0) z u.1 ∧ u.2 0 = lZ z) ∨ ∃ E, (fun E u => zC cu ca EL md kd sA sB u ∧ ((E = "java/lang/IllegalStateException" ∧ ¬ md < 120) ∨ (E = "java/lang/IllegalArgumentException" ∧ md < 120 ∧ kd = 0))) E u.1 ∧ r = xc ["java/lang/IllegalStateException", "java/lang/IllegalArgumentException"] E)
    (hm : (fun z u => (¬ md < 120 ∧ zGm cu ca EL md kd W sD 1 u) ∨ (md < 120 ∧ kd = 0 ∧ zGm cu ca EL md kd W sD 2 u) ∨ (md < 120 ∧ kd ≠ 0 ∧ z = md ∧ zGm cu ca (zUp EL md (mp_m ca (mp_m cu 1 0) 1, 1)) (md + 1) kd W sD 0 u)) zr v) : zAg cu ca u.1 v ∧ v.2.2.1 = r ∧ (r = 0 → u.2 0 = lZ zr ∧ -2147483648 ≤ zr ∧ zr < 2147483648) := by
  have hmd := zC_md hC
  rcases hw with ⟨r0, z, hp, hf⟩ | ⟨E, hp, r0⟩
  · obtain ⟨p1, p2, p3, p4⟩ := hp
    rcases hm with ⟨m1, hg⟩ | ⟨m1, m2, hg⟩ | ⟨m1, m2, m3, hg⟩
    · exfalso; omega
    · exfalso; omega
    · exact agN r0 hf (p1.trans m3.symm) (by omega) (ag0 p3 hg (zJ_up hJ (fun k0 => absurd k0 p4)))
  · obtain ⟨hc, ⟨rfl, e1⟩ | ⟨rfl, e1, e2⟩⟩ := hp
    · skip
      rcases hm with ⟨m1, hg⟩ | ⟨m1, m2, hg⟩ | ⟨m1, m2, m3, hg⟩
      · exact agE r0 (by decide +kernel) (by decide) (ag0 hc hg hJ)
      · exfalso; omega
      · exfalso; omega
    · skip
      rcases hm with ⟨m1, hg⟩ | ⟨m1, m2, hg⟩ | ⟨m1, m2, m3, hg⟩
      · exfalso; omega
      · exact agE r0 (by decide +kernel) (by decide) (ag0 hc hg hJ)
      · exfalso; omega
