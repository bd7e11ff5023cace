/-! the class's world: its objects and arrays by places; what is raw, and the polynomials that it holds -/
abbrev zS : Type := (Nat → Nat) × (Nat → Nat → FP) × (Nat → Int) × (Nat → FP) × Int × Int
def gC (ad : Nat → Nat) (cI cO : ClassId) (S : zS) (k : Nat) : va_E :=
  if k = 0 then .inr (5, [.ref (ad 1), .int (iZ S.2.2.2.2.1), .int (iZ S.2.2.2.2.2), .ref (ad (182 + 31)), .ref (ad (183 + 31)), .ref (ad (0 + 3)), .ref (ad (1 + 3)), .ref (ad (2 + 3)), .ref (ad (3 + 3)), .ref (ad (4 + 3)), .ref (ad (5 + 3)), .ref (ad (6 + 3)), .ref (ad (7 + 3)), .ref (ad (8 + 3)), .ref (ad 2)])
  else if k = 1 then .inl (cI, 11760, .inl (fun j => iZ (vz (S.2.2.2.1 j))))
  else if k = 2 then .inr (2, [.ref (ad (9 + 3)), .ref (ad (10 + 3)), .ref (ad (11 + 3)), .ref (ad (12 + 3)), .ref (ad (13 + 3)), .ref (ad (184 + 31)), .ref (ad (185 + 31)), .ref (ad (186 + 31)), .ref (ad (187 + 31)), .ref (ad (188 + 31)), .ref (ad (189 + 31)), .ref (ad (190 + 31)), .ref (ad (191 + 31)), .ref (ad (192 + 31)), .ref (ad (193 + 31))])
  else if k < 17 then .inr (4, [.ref (ad (k - 3 + 17))])
  else if k < 31 then .inl (cO, 13, .inr (.inr (.inr (.inr (fun i => if i < 13 then some (ad (13 * (k - 17) + i + 31)) else none)))))
  else if k < 225 then .inr (3, [.ref (ad (S.1 (k - 31) + 225)), .int (iZ (S.2.2.1 (k - 31)))])
  else .inl (cI, 52, .inl (fun j => iZ (vz (S.2.1 (k - 225) j))))
def uc (S : zS) (a : Nat) (f : Nat → FP) : zS := (S.1, va_up S.2.1 a f, S.2.2)
def ud (S : zS) (k : Nat) (d : Int) : zS := (S.1, S.2.1, va_up S.2.2.1 k d, S.2.2.2)
def ua (S : zS) (k a : Nat) : zS := (va_up S.1 k a, S.2)
section
variable {ad : Nat → Nat} {cI cO : ClassId} {S : zS}
theorem gC_T : gC ad cI cO S 0 = .inr (5, [.ref (ad 1), .int (iZ S.2.2.2.2.1), .int (iZ S.2.2.2.2.2), .ref (ad (182 + 31)), .ref (ad (183 + 31)), .ref (ad (0 + 3)), .ref (ad (1 + 3)), .ref (ad (2 + 3)), .ref (ad (3 + 3)), .ref (ad (4 + 3)), .ref (ad (5 + 3)), .ref (ad (6 + 3)), .ref (ad (7 + 3)), .ref (ad (8 + 3)), .ref (ad 2)]) := if_pos rfl
theorem gC_N : gC ad cI cO S 1 = .inl (cI, 11760, .inl (fun j => iZ (vz (S.2.2.2.1 j)))) := by rw [gC, if_neg (by omega), if_pos rfl]
theorem gC_D : gC ad cI cO S 2 = .inr (2, [.ref (ad (9 + 3)), .ref (ad (10 + 3)), .ref (ad (11 + 3)), .ref (ad (12 + 3)), .ref (ad (13 + 3)), .ref (ad (184 + 31)), .ref (ad (185 + 31)), .ref (ad (186 + 31)), .ref (ad (187 + 31)), .ref (ad (188 + 31)), .ref (ad (189 + 31)), .ref (ad (190 + 31)), .ref (ad (191 + 31)), .ref (ad (192 + 31)), .ref (ad (193 + 31))]) := by rw [gC, if_neg (by omega), if_neg (by omega), if_pos rfl]
theorem gC_P {q : Nat} (h : q < 14) : gC ad cI cO S (q + 3) = .inr (4, [.ref (ad (q + 17))]) := by rw [gC, if_neg (by omega), if_neg (by omega), if_neg (by omega), if_pos (by omega), Nat.add_sub_cancel]
theorem gC_W {q : Nat} (h : q < 14) : gC ad cI cO S (q + 17) = .inl (cO, 13, .inr (.inr (.inr (.inr (fun i => if i < 13 then some (ad (13 * q + i + 31)) else none))))) := by rw [gC, if_neg (by omega), if_neg (by omega), if_neg (by omega), if_neg (by omega), if_pos (by omega), Nat.add_sub_cancel]
theorem gC_L {k : Nat} (h : k < 194) : gC ad cI cO S (k + 31) = .inr (3, [.ref (ad (S.1 k + 225)), .int (iZ (S.2.2.1 k))]) := by rw [gC, if_neg (by omega), if_neg (by omega), if_neg (by omega), if_neg (by omega), if_neg (by omega), if_pos (by omega), Nat.add_sub_cancel]
theorem gC_A {a : Nat} : gC ad cI cO S (a + 225) = .inl (cI, 52, .inl (fun j => iZ (vz (S.2.1 a j)))) := by rw [gC, if_neg (by omega), if_neg (by omega), if_neg (by omega), if_neg (by omega), if_neg (by omega), if_neg (by omega), Nat.add_sub_cancel]
theorem gC_cases (k : Nat) : k = 0 ∨ k = 1 ∨ k = 2 ∨ (∃ q, q < 14 ∧ k = q + 3) ∨ (∃ q, q < 14 ∧ k = q + 17) ∨ (∃ q, q < 194 ∧ k = q + 31) ∨ ∃ a, k = a + 225 := by
  by_cases h0 : k = 0
  · exact Or.inl h0
  by_cases h1 : k = 1
  · exact Or.inr (Or.inl h1)
  by_cases h2 : k = 2
  · exact Or.inr (Or.inr (Or.inl h2))
  by_cases h3 : k < 17
  · exact Or.inr (Or.inr (Or.inr (Or.inl ⟨k - 3, by omega, by omega⟩)))
  by_cases h4 : k < 31
  · exact Or.inr (Or.inr (Or.inr (Or.inr (Or.inl ⟨k - 17, by omega, by omega⟩))))
  by_cases h5 : k < 225
  · exact Or.inr (Or.inr (Or.inr (Or.inr (Or.inr (Or.inl ⟨k - 31, by omega, by omega⟩)))))
  · exact Or.inr (Or.inr (Or.inr (Or.inr (Or.inr (Or.inr ⟨k - 225, by omega⟩)))))
theorem gC_uc (a : Nat) (f : Nat → FP) : va_up (gC ad cI cO S) (a + 225) (.inl (cI, 52, .inl (fun j => iZ (vz (f j))))) = gC ad cI cO (uc S a f) := by
  funext k
  rcases gC_cases k with rfl | rfl | rfl | ⟨q, hq, rfl⟩ | ⟨q, hq, rfl⟩ | ⟨q, hq, rfl⟩ | ⟨b, rfl⟩
  · rw [va_up_ne _ _ (by omega), gC_T, gC_T]; rfl
  · rw [va_up_ne _ _ (by omega), gC_N, gC_N]; rfl
  · rw [va_up_ne _ _ (by omega), gC_D, gC_D]
  · rw [va_up_ne _ _ (by omega), gC_P hq, gC_P hq]
  · rw [va_up_ne _ _ (by omega), gC_W hq, gC_W hq]
  · rw [va_up_ne _ _ (by omega), gC_L hq, gC_L hq]; rfl
  · by_cases e : b = a
    · rw [e, va_up_self, gC_A]
      simp only [uc, va_up_self]
    · rw [va_up_ne _ _ (by omega), gC_A, gC_A]
      simp only [uc, va_up_ne _ _ e]
theorem gC_ud {k : Nat} (h : k < 194) (d : Int) : va_up (gC ad cI cO S) (k + 31) (.inr (3, [.ref (ad (S.1 k + 225)), .int (iZ d)])) = gC ad cI cO (ud S k d) := by
  funext j
  rcases gC_cases j with rfl | rfl | rfl | ⟨q, hq, rfl⟩ | ⟨q, hq, rfl⟩ | ⟨q, hq, rfl⟩ | ⟨b, rfl⟩
  · rw [va_up_ne _ _ (by omega), gC_T, gC_T]; rfl
  · rw [va_up_ne _ _ (by omega), gC_N, gC_N]; rfl
  · rw [va_up_ne _ _ (by omega), gC_D, gC_D]
  · rw [va_up_ne _ _ (by omega), gC_P hq, gC_P hq]
  · rw [va_up_ne _ _ (by omega), gC_W hq, gC_W hq]
  · by_cases e : q = k
    · rw [e, va_up_self, gC_L h]
      simp only [ud, va_up_self]
    · rw [va_up_ne _ _ (by omega), gC_L hq, gC_L hq]
      simp only [ud, va_up_ne _ _ e]
  · rw [va_up_ne _ _ (by omega), gC_A, gC_A]; rfl
theorem gC_ua {k : Nat} (h : k < 194) (a : Nat) : va_up (gC ad cI cO S) (k + 31) (.inr (3, [.ref (ad (a + 225)), .int (iZ (S.2.2.1 k))])) = gC ad cI cO (ua S k a) := by
  funext j
  rcases gC_cases j with rfl | rfl | rfl | ⟨q, hq, rfl⟩ | ⟨q, hq, rfl⟩ | ⟨q, hq, rfl⟩ | ⟨b, rfl⟩
  · rw [va_up_ne _ _ (by omega), gC_T, gC_T]; rfl
  · rw [va_up_ne _ _ (by omega), gC_N, gC_N]; rfl
  · rw [va_up_ne _ _ (by omega), gC_D, gC_D]
  · rw [va_up_ne _ _ (by omega), gC_P hq, gC_P hq]
  · rw [va_up_ne _ _ (by omega), gC_W hq, gC_W hq]
  · by_cases e : q = k
    · rw [e, va_up_self, gC_L h]
      simp only [ua, va_up_self]
    · rw [va_up_ne _ _ (by omega), gC_L hq, gC_L hq]
      simp only [ua, va_up_ne _ _ e]
  · rw [va_up_ne _ _ (by omega), gC_A, gC_A]; rfl
end
abbrev zTy (cI cO : ClassId) : List (ClassId × FieldType) := [(cI, .int), (cO, .object "TowerFields$Line")]
section ZR
variable {p : Program} {l : Launch} {e : Env} {R : Room} {s : State} {m : MethodId} {args : Array Value} {below : List Frame} {meth : Method} {c : Code} {cc : ByteArray} {nL : Nat} {own : String} {ret : Option FieldType} {D : va_G} {ad : Nat → Nat} {cI cO : ClassId} {A : Nat → Prop} {cells slots : Nat} {Q : State → Prop} {pc : Nat} {lv : List (Nat × Value)} {st : List Value} {S : zS}
/-- a name for the state -/
theorem zs_nm (k : ∀ S', S' = S → Z p l e R s m args below meth c nL D 419 ad A cells slots Q pc lv st (gC ad cI cO S')) : Z p l e R s m args below meth c nL D 419 ad A cells slots Q pc lv st (gC ad cI cO S) := k S rfl
theorem zl_nums (X : zCx p s m args meth c cc nL RX1 ret D (zTy cI cO) 419 ad A) {k : Nat} (h : k < 194) (a : Nat) (ha : S.1 k = a) (hd : decode cc pc = .ok (.getfield 9, 3)) (kk : Z p l e R s m args below meth c nL D 419 ad A cells slots Q (pc + 3) lv (.ref (ad (a + 225)) :: st) (gC ad cI cO S)) : Z p l e R s m args below meth c nL D 419 ad A cells slots Q pc lv (.ref (ad (k + 31)) :: st) (gC ad cI cO S) :=
  z_get X zinX1 (k + 31) (by omega) (by rw [gC_L h, ha]) (ci := 3) rfl 0 (by decide) (ref := "TowerFields$Line") zw30 rfl rfl hd kk
theorem zl_deg (X : zCx p s m args meth c cc nL RX1 ret D (zTy cI cO) 419 ad A) {k : Nat} (h : k < 194) (d : Int) (hdg : S.2.2.1 k = d) (hd : decode cc pc = .ok (.getfield 15, 3)) (kk : Z p l e R s m args below meth c nL D 419 ad A cells slots Q (pc + 3) lv (.int (iZ d) :: st) (gC ad cI cO S)) : Z p l e R s m args below meth c nL D 419 ad A cells slots Q pc lv (.ref (ad (k + 31)) :: st) (gC ad cI cO S) :=
  z_get X zinX1 (k + 31) (by omega) (by rw [gC_L h, hdg]) (ci := 3) rfl 1 (by decide) (ref := "TowerFields$Line") zw31 rfl rfl hd kk
theorem zl_degN {index : Nat} {host : String} (X : zCx p s m args meth c cc nL own ret D (zTy cI cO) 419 ad A) {k : Nat} (h : k < 194) (d : Int) (hdg : S.2.2.1 k = d) (hlink : Cond.fieldLinkNest own index "TowerFields$Line" "degree" "I" host ∈ zNest) (hd : decode cc pc = .ok (.getfield index, 3)) (kk : Z p l e R s m args below meth c nL D 419 ad A cells slots Q (pc + 3) lv (.int (iZ d) :: st) (gC ad cI cO S)) : Z p l e R s m args below meth c nL D 419 ad A cells slots Q pc lv (.ref (ad (k + 31)) :: st) (gC ad cI cO S) :=
  z_getN X zinX1 (k + 31) (by omega) (by rw [gC_L h, hdg]) (ci := 3) rfl 1 (by decide) (ref := "TowerFields$Line") hlink rfl rfl hd kk
theorem zl_pdeg (X : zCx p s m args meth c cc nL RX1 ret D (zTy cI cO) 419 ad A) {k : Nat} {d : Int} (h : k < 194) (hd : decode cc pc = .ok (.putfield 15, 3)) (kk : Z p l e R s m args below meth c nL D 419 ad A cells slots Q (pc + 3) lv st (gC ad cI cO (ud S k d))) : Z p l e R s m args below meth c nL D 419 ad A cells slots Q pc lv (.int (iZ d) :: .ref (ad (k + 31)) :: st) (gC ad cI cO S) :=
  z_put X zinX1 tyX1 tyX1_ok nmX1 (k + 31) (by omega) (gC_L h) (ci := 3) rfl 1 (by decide) (ref := "TowerFields$Line") zw31 rfl rfl (ty := .int) (by decide +kernel) rfl rfl (Nat.le_of_ble_eq_true rfl) hd (z_eqg (gC_ud h d) kk)
theorem zl_pnums (X : zCx p s m args meth c cc nL RX1 ret D (zTy cI cO) 419 ad A) {k a : Nat} (h : k < 194) (hd : decode cc pc = .ok (.putfield 9, 3)) (kk : Z p l e R s m args below meth c nL D 419 ad A cells slots Q (pc + 3) lv st (gC ad cI cO (ua S k a))) : Z p l e R s m args below meth c nL D 419 ad A cells slots Q pc lv (.ref (ad (a + 225)) :: .ref (ad (k + 31)) :: st) (gC ad cI cO S) :=
  z_put X zinX1 tyX1 tyX1_ok nmX1 (k + 31) (by omega) (gC_L h) (ci := 3) rfl 0 (by decide) (ref := "TowerFields$Line") zw30 rfl rfl (ty := .array .int) (by decide +kernel) rfl rfl (Nat.le_of_ble_eq_true rfl) hd (z_eqg (gC_ua h a) kk)
theorem zl_len (X : zCx p s m args meth c cc nL own ret D (zTy cI cO) 419 ad A) {a : Nat} (h : a < 194) (hd : decode cc pc = .ok (.arraylength, 1)) (kk : Z p l e R s m args below meth c nL D 419 ad A cells slots Q (pc + 1) lv (.int (iZ 52) :: st) (gC ad cI cO S)) : Z p l e R s m args below meth c nL D 419 ad A cells slots Q pc lv (.ref (ad (a + 225)) :: st) (gC ad cI cO S) :=
  z_alen X (a + 225) 0 (by omega) gC_A rfl hd kk
theorem zl_ld (X : zCx p s m args meth c cc nL own ret D (zTy cI cO) 419 ad A) {a : Nat} {i : Int} (h : a < 194) (h0 : 0 ≤ i) (h1 : i < 52) (v : FP) (hv : S.2.1 a i.toNat = v) (hd : decode cc pc = .ok (.iaload, 1)) (kk : Z p l e R s m args below meth c nL D 419 ad A cells slots Q (pc + 1) lv (.int (iZ (vz v)) :: st) (gC ad cI cO S)) : Z p l e R s m args below meth c nL D 419 ad A cells slots Q pc lv (.int (iZ i) :: .ref (ad (a + 225)) :: st) (gC ad cI cO S) :=
  z_iald X (a + 225) 0 (by omega) gC_A rfl h0 (by omega) (by omega) hd (by rw [hv]; exact kk)
theorem zl_upd (f : Nat → FP) (i : Nat) (v : FP) : upd (fun j => iZ (vz (f j))) i (iZ (vz v)) = fun j => iZ (vz (va_up f i v j)) := by
  funext j
  by_cases e : j = i
  · simp [upd, va_up, e]
  · simp [upd, va_up, e]
theorem zl_st (X : zCx p s m args meth c cc nL own ret D (zTy cI cO) 419 ad A) {a : Nat} {i z : Int} (h : a < 194) (h0 : 0 ≤ i) (h1 : i < 52) (v : FP) (hz : z = vz v) (S' : zS) (hS' : uc S a (va_up (S.2.1 a) i.toNat v) = S') (hd : decode cc pc = .ok (.iastore, 1)) (kk : Z p l e R s m args below meth c nL D 419 ad A cells slots Q (pc + 1) lv st (gC ad cI cO S')) : Z p l e R s m args below meth c nL D 419 ad A cells slots Q pc lv (.int (iZ z) :: .int (iZ i) :: .ref (ad (a + 225)) :: st) (gC ad cI cO S) := by
  subst hz
  refine z_iast X (a + 225) 0 (by omega) gC_A rfl h0 (by omega) (by omega) hd (z_eqg ?_ kk)
  rw [zl_upd, gC_uc, hS']
end ZR
/-! the polynomials in the lines -/
section ZH
variable {U : Type}
abbrev zRest : Type := (Nat → FP) × Int × Int
/-- line k holds the polynomial P k -/
def zR [Lean.Grind.CommRing U] (cu : U → Nat → FP) (P : Nat → U) (T : zRest) (S : zS) : Prop :=
  (∀ k, k < 194 → S.1 k < 194) ∧ (∀ i j, i < 194 → j < 194 → S.1 i = S.1 j → i = j) ∧ (∀ k, k < 194 → ∀ j, j < 52 → S.2.1 (S.1 k) j = cu (P k) j) ∧ (∀ k, k < 194 → S.2.2.1 k = (mp_sz cu (P k) : Int) - 1) ∧ (∀ k, k < 194 → mp_sz cu (P k) ≤ 52) ∧ S.2.2.2 = T
theorem zR_cong [Lean.Grind.CommRing U] {cu : U → Nat → FP} {P P' : Nat → U} {T : zRest} {S : zS} (h : zR cu P T S) (e : ∀ k, k < 194 → P' k = P k) : zR cu P' T S := by
  obtain ⟨h1, h2, h3, h4, h5, h6⟩ := h
  exact ⟨h1, h2, fun k hk j hj => by rw [e k hk]; exact h3 k hk j hj, fun k hk => by rw [e k hk]; exact h4 k hk, fun k hk => by rw [e k hk]; exact h5 k hk, h6⟩
/-- a line's numbers and degree written anew -/
theorem zR_line [Lean.Grind.CommRing U] {cu : U → Nat → FP} (HU : mp_P cu) {P : Nat → U} {T : zRest} {S : zS} (h : zR cu P T S) {k : Nat} (hk : k < 194) (f : Nat → FP) (d : Int) (q : U) (hf : ∀ j, j < 52 → f j = cu q j) (hq : ∀ j, 52 ≤ j → cu q j = 0) (h1 : -1 ≤ d) (h2 : ∀ j : Nat, d < j → j < 52 → f j = 0) (h3 : 0 ≤ d → d < 52 ∧ f d.toNat ≠ 0) : zR cu (va_up P k q) T (ud (uc S (S.1 k) f) k d) := by
  obtain ⟨g1, g2, g3, g4, g5, g6⟩ := h
  have hs : (mp_sz cu q : Int) = d + 1 := by
    by_cases hd : 0 ≤ d
    · obtain ⟨h4, h5⟩ := h3 hd
      obtain ⟨n, rfl⟩ := Int.eq_ofNat_of_zero_le hd
      have := mp_sz_eq HU (a := q) (n := n) (fun j hj => by
        by_cases h9 : j < 52
        · rw [← hf j h9]; exact h2 j (by omega) h9
        · exact hq j (by omega)) (by rw [← hf n (by omega)]; exact h5)
      omega
    · have : mp_sz cu q ≤ 0 := mp_sz_le HU (fun j _ => by
        by_cases h9 : j < 52
        · rw [← hf j h9]; exact h2 j (by omega) h9
        · exact hq j (by omega))
      omega
  refine ⟨g1, g2, fun i hi j hj => ?_, fun i hi => ?_, fun i hi => ?_, g6⟩
  · show va_up S.2.1 (S.1 k) f (S.1 i) j = cu (va_up P k q i) j
    by_cases e : i = k
    · rw [e, va_up_self, va_up_self]; exact hf j hj
    · rw [va_up_ne _ _ e, va_up_ne _ _ (fun z => e (g2 i k hi hk z))]; exact g3 i hi j hj
  · show va_up S.2.2.1 k d i = (mp_sz cu (va_up P k q i) : Int) - 1
    by_cases e : i = k
    · rw [e, va_up_self, va_up_self]; omega
    · rw [va_up_ne _ _ e, va_up_ne _ _ e]; exact g4 i hi
  · by_cases e : i = k
    · rw [e, va_up_self]
      exact mp_sz_le HU hq
    · rw [va_up_ne _ _ e]; exact g5 i hi
end ZH
