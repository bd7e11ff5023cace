/-! constructors: the divisor, the class -/
section
variable {p : Program} {l : Launch} {e : Env} {R : Room} {s : State} {m : MethodId} {args : Array Value} {below : List Frame} {meth : Method} {c : Code} {cc : ByteArray} {nL : Nat} {own : String} {ret : Option FieldType} {D : va_G} {tys : List (ClassId × FieldType)} {N : Nat} {ad : Nat → Nat} {A : Nat → Prop} {cells slots : Nat} {Q : State → Prop} {pc : Nat} {lv : List (Nat × Value)} {st : List Value} {g : Nat → va_E}
theorem z_cong9 {N9 cells9 slots9 : Nat} {g9 : Nat → va_E} {ad9 : Nat → Nat} (eN : N9 = N) (ec : cells9 = cells) (es : slots9 = slots) (e1 : ∀ k, k < N9 → ad9 k = ad k) (e2 : ∀ k, k < N9 → g9 k = g k) (k : Z p l e R s m args below meth c nL D N9 ad9 A cells9 slots9 Q pc lv st g9) : Z p l e R s m args below meth c nL D N ad A cells slots Q pc lv st g := by
  subst eN
  subst ec
  subst es
  exact z_cong e1 e2 k
/-- the same cells in another order -/
theorem z_perm {N9 : Nat} {g9 : Nat → va_E} (π : Nat → Nat) (h1 : ∀ k, k < N9 → π k < N) (h2 : ∀ k, k < N9 → g9 k = g (π k)) (k : Z p l e R s m args below meth c nL D N9 (fun i => ad (π i)) A cells slots Q pc lv st g9) : Z p l e R s m args below meth c nL D N ad A cells slots Q pc lv st g := fun H locs ls hl hP hS => k H locs ls hl (zP_at.mpr (fun i hi => by rw [h2 i hi]; exact zP_at.mp hP (π i) (h1 i hi))) hS
end
def fX (f : (Nat → Nat) → Nat → Value) (d : Nat → Value) (n m : Nat) (a : Nat → Nat) : List Value := (List.range m).map (fun q => if q < n then f a q else d q)
theorem fX_len {f : (Nat → Nat) → Nat → Value} {d : Nat → Value} {n m : Nat} {a : Nat → Nat} : (fX f d n m a).length = m := by simp [fX]
theorem fX_step {f : (Nat → Nat) → Nat → Value} {d : Nat → Value} {n m : Nat} {a a9 : Nat → Nat} {v : Value} (h : ∀ i, i < n → f a9 i = f a i) (hv : f a9 n = v) : (fX f d n m a).set n v = fX f d (n + 1) m a9 := by
  apply List.ext_getElem
  · simp [fX]
  · intro i h1 h2
    simp only [fX, List.getElem_set, List.getElem_map, List.getElem_range]
    by_cases e : n = i
    · subst e
      rw [if_pos rfl, if_pos (by omega), hv]
    · rw [if_neg e]
      by_cases q : i < n
      · rw [if_pos q, if_pos (by omega), h i q]
      · rw [if_neg q, if_neg (by omega)]
def vD (a : Nat → Nat) (q : Nat) : Value := if q < 5 then .ref (a (28 * q + 1)) else .ref (a (2 * (q - 5) + 141))
def lD (cI cO : ClassId) (n : Nat) (a : Nat → Nat) (k : Nat) : va_E := if k = 0 then .inr (2, fX vD (fun _ => .null) n 15 a) else if k < 141 then bQ cI cO 13 (fun t => a (28 * ((k - 1) / 28) + 1 + t)) ((k - 1) % 28) else bL cI (fun t => a (2 * ((k - 141) / 2) + 141 + t)) ((k - 141) % 2)
def vT (a : Nat → Nat) (q : Nat) : Value := if q = 0 then .ref (a 1) else if q < 3 then .int (iZ 0) else if q < 5 then .ref (a (2 * (q - 3) + 2)) else if q < 14 then .ref (a (28 * (q - 5) + 6)) else .ref (a 258)
def dT (q : Nat) : Value := if q = 1 then .int 0 else if q = 2 then .int 0 else .null
def lT (cI cO : ClassId) (n : Nat) (a : Nat → Nat) (k : Nat) : va_E := if k = 0 then .inr (5, fX vT dT n 15 a) else if k = 1 then .inl (cI, 11760, .inl (fun _ => 0)) else if k < 6 then bL cI (fun t => a (2 * ((k - 2) / 2) + 2 + t)) ((k - 2) % 2) else if k < 258 then bQ cI cO 13 (fun t => a (28 * ((k - 6) / 28) + 6 + t)) ((k - 6) % 28) else lD cI cO 15 (fun t => a (258 + t)) (k - 258)
section
variable {cI cO : ClassId} {a a9 : Nat → Nat} {n n9 i j k q r N : Nat}
theorem lD_0 : lD cI cO n a 0 = .inr (2, fX vD (fun _ => .null) n 15 a) := if_pos rfl
theorem lD_P (hq : q < 5) (hj : j < 28) : lD cI cO n a (28 * q + 1 + j) = bQ cI cO 13 (fun t => a (28 * q + 1 + t)) j := by
  rw [lD, if_neg (by omega), if_pos (by omega), show (28 * q + 1 + j - 1) / 28 = q by omega, show (28 * q + 1 + j - 1) % 28 = j by omega]
theorem lD_L (hj : j < 2) : lD cI cO n a (2 * r + 141 + j) = bL cI (fun t => a (2 * r + 141 + t)) j := by
  rw [lD, if_neg (by omega), if_neg (by omega), show (2 * r + 141 + j - 141) / 2 = r by omega, show (2 * r + 141 + j - 141) % 2 = j by omega]
theorem lD_cong (hb : (N ≤ 141 ∧ (N - 1) % 28 = 0) ∨ (141 ≤ N ∧ (N - 141) % 2 = 0)) (h : ∀ t, t < N → a9 t = a t) (k0 : k ≠ 0) (hk : k < N) : lD cI cO n9 a9 k = lD cI cO n a k := by
  by_cases h1 : k < 141
  · rw [show k = 28 * ((k - 1) / 28) + 1 + (k - 1) % 28 by omega, lD_P (by omega) (by omega), lD_P (by omega) (by omega)]
    exact bQ_cong (fun t ht => h _ (by omega)) (by omega)
  · rw [show k = 2 * ((k - 141) / 2) + 141 + (k - 141) % 2 by omega, lD_L (by omega), lD_L (by omega)]
    exact bL_cong (fun t ht => h _ (by omega))
theorem vD_cong (hb : (N ≤ 141 ∧ N = 28 * n + 1) ∨ (141 ≤ N ∧ N = 2 * (n - 5) + 141 ∧ 5 ≤ n)) (h : ∀ t, t < N → a9 t = a t) (hi : i < n) : vD a9 i = vD a i := by
  unfold vD
  split
  · rw [h _ (by omega)]
  · rw [h _ (by omega)]
theorem lD_stepP (hq : q < 5) (h : ∀ t, t < 28 * q + 1 → a9 t = a t) (k : Nat) (hk : k < 28 * q + 1 + 28) : lD cI cO (q + 1) a9 k = va_up (zg (28 * q + 1) (lD cI cO q a) (bQ cI cO 13 (fun t => a9 (28 * q + 1 + t)))) 0 (.inr (2, (fX vD (fun _ => .null) q 15 a).set q (.ref (a9 (28 * q + 1))))) k := by
  by_cases k0 : k = 0
  · rw [k0, va_up_self, lD_0, fX_step (fun i hi => vD_cong (Or.inl ⟨by omega, rfl⟩) h hi) (show vD a9 q = _ from if_pos hq)]
  · rw [va_up_ne _ _ k0]
    by_cases kn : k < 28 * q + 1
    · rw [zg_l kn]
      exact lD_cong (Or.inl ⟨by omega, by omega⟩) h k0 kn
    · rw [zg_r (by omega), show k = 28 * q + 1 + (k - (28 * q + 1)) by omega, lD_P hq (by omega), show 28 * q + 1 + (k - (28 * q + 1)) - (28 * q + 1) = k - (28 * q + 1) by omega]
theorem lD_stepL (hr : r < 10) (h : ∀ t, t < 2 * r + 141 → a9 t = a t) (k : Nat) (hk : k < 2 * r + 141 + 2) : lD cI cO (r + 5 + 1) a9 k = va_up (zg (2 * r + 141) (lD cI cO (r + 5) a) (bL cI (fun t => a9 (2 * r + 141 + t)))) 0 (.inr (2, (fX vD (fun _ => .null) (r + 5) 15 a).set (r + 5) (.ref (a9 (2 * r + 141))))) k := by
  by_cases k0 : k = 0
  · rw [k0, va_up_self, lD_0, fX_step (fun i hi => vD_cong (N := 2 * r + 141) (Or.inr ⟨by omega, by omega, by omega⟩) h hi) (show vD a9 (r + 5) = .ref (a9 (2 * r + 141)) by rw [vD, if_neg (by omega), Nat.add_sub_cancel])]
  · rw [va_up_ne _ _ k0]
    by_cases kn : k < 2 * r + 141
    · rw [zg_l kn]
      exact lD_cong (Or.inr ⟨by omega, by omega⟩) h k0 kn
    · rw [zg_r (by omega), show k = 2 * r + 141 + (k - (2 * r + 141)) by omega, lD_L (by omega), show 2 * r + 141 + (k - (2 * r + 141)) - (2 * r + 141) = k - (2 * r + 141) by omega]
theorem lT_0 : lT cI cO n a 0 = .inr (5, fX vT dT n 15 a) := if_pos rfl
theorem lT_1 : lT cI cO n a 1 = .inl (cI, 11760, .inl (fun _ => 0)) := by rw [lT, if_neg (by omega), if_pos rfl]
theorem lT_L (hr : r < 2) (hj : j < 2) : lT cI cO n a (2 * r + 2 + j) = bL cI (fun t => a (2 * r + 2 + t)) j := by
  rw [lT, if_neg (by omega), if_neg (by omega), if_pos (by omega), show (2 * r + 2 + j - 2) / 2 = r by omega, show (2 * r + 2 + j - 2) % 2 = j by omega]
theorem lT_P (hq : q < 9) (hj : j < 28) : lT cI cO n a (28 * q + 6 + j) = bQ cI cO 13 (fun t => a (28 * q + 6 + t)) j := by
  rw [lT, if_neg (by omega), if_neg (by omega), if_neg (by omega), if_pos (by omega), show (28 * q + 6 + j - 6) / 28 = q by omega, show (28 * q + 6 + j - 6) % 28 = j by omega]
theorem lT_D : lT cI cO n a (258 + j) = lD cI cO 15 (fun t => a (258 + t)) j := by
  rw [lT, if_neg (by omega), if_neg (by omega), if_neg (by omega), if_neg (by omega), Nat.add_sub_cancel_left]
theorem lT_cong (hb : (N ≤ 6 ∧ 2 ≤ N ∧ N % 2 = 0) ∨ (6 ≤ N ∧ N ≤ 258 ∧ (N - 6) % 28 = 0)) (h : ∀ t, t < N → a9 t = a t) (k0 : k ≠ 0) (hk : k < N) : lT cI cO n9 a9 k = lT cI cO n a k := by
  by_cases h1 : k = 1
  · rw [h1, lT_1, lT_1]
  by_cases h2 : k < 6
  · rw [show k = 2 * ((k - 2) / 2) + 2 + (k - 2) % 2 by omega, lT_L (by omega) (by omega), lT_L (by omega) (by omega)]
    exact bL_cong (fun t ht => h _ (by omega))
  · rw [show k = 28 * ((k - 6) / 28) + 6 + (k - 6) % 28 by omega, lT_P (by omega) (by omega), lT_P (by omega) (by omega)]
    exact bQ_cong (fun t ht => h _ (by omega)) (by omega)
theorem vT_cong (h : ∀ t, t < N → a9 t = a t) (h0 : 2 ≤ N) (hl : ∀ i, i < n → 3 ≤ i → i < 5 → 2 * (i - 3) + 2 < N) (hp : ∀ i, i < n → 5 ≤ i → i < 14 → 28 * (i - 5) + 6 < N) (hn : n ≤ 14) (hi : i < n) : vT a9 i = vT a i := by
  unfold vT
  split
  · rw [h _ (by omega)]
  split
  · rfl
  split
  · rw [h _ (hl i hi (by omega) (by omega))]
  split
  · rw [h _ (hp i hi (by omega) (by omega))]
  · omega
theorem lT_stepN (k : Nat) (hk : k < 2) : lT cI cO 1 a9 k = va_up (zg 1 (lT cI cO 0 a) (fun _ => .inl (cI, 11760, .inl (fun _ => 0)))) 0 (.inr (5, (fX vT dT 0 15 a).set 0 (.ref (a9 1)))) k := by
  rcases (by omega : k = 0 ∨ k = 1) with rfl | rfl
  · rw [va_up_self, lT_0, fX_step (fun i hi => by omega) (show vT a9 0 = _ from if_pos rfl)]
  · rw [va_up_ne _ _ (by omega), zg_r (by omega), lT_1]
theorem lT_stepL (hr : r < 2) (h : ∀ t, t < 2 * r + 2 → a9 t = a t) (k : Nat) (hk : k < 2 * r + 2 + 2) : lT cI cO (r + 3 + 1) a9 k = va_up (zg (2 * r + 2) (lT cI cO (r + 3) a) (bL cI (fun t => a9 (2 * r + 2 + t)))) 0 (.inr (5, (fX vT dT (r + 3) 15 a).set (r + 3) (.ref (a9 (2 * r + 2))))) k := by
  by_cases k0 : k = 0
  · rw [k0, va_up_self, lT_0, fX_step (fun i hi => vT_cong h (by omega) (by omega) (by omega) (by omega) hi) (show vT a9 (r + 3) = .ref (a9 (2 * r + 2)) by rw [vT, if_neg (by omega), if_neg (by omega), if_pos (by omega), Nat.add_sub_cancel])]
  · rw [va_up_ne _ _ k0]
    by_cases kn : k < 2 * r + 2
    · rw [zg_l kn]
      exact lT_cong (Or.inl ⟨by omega, by omega, by omega⟩) h k0 kn
    · rw [zg_r (by omega), show k = 2 * r + 2 + (k - (2 * r + 2)) by omega, lT_L hr (by omega), show 2 * r + 2 + (k - (2 * r + 2)) - (2 * r + 2) = k - (2 * r + 2) by omega]
theorem lT_stepP (hq : q < 9) (h : ∀ t, t < 28 * q + 6 → a9 t = a t) (k : Nat) (hk : k < 28 * q + 6 + 28) : lT cI cO (q + 5 + 1) a9 k = va_up (zg (28 * q + 6) (lT cI cO (q + 5) a) (bQ cI cO 13 (fun t => a9 (28 * q + 6 + t)))) 0 (.inr (5, (fX vT dT (q + 5) 15 a).set (q + 5) (.ref (a9 (28 * q + 6))))) k := by
  by_cases k0 : k = 0
  · rw [k0, va_up_self, lT_0, fX_step (fun i hi => vT_cong h (by omega) (by omega) (by omega) (by omega) hi) (show vT a9 (q + 5) = .ref (a9 (28 * q + 6)) by rw [vT, if_neg (by omega), if_neg (by omega), if_neg (by omega), if_pos (by omega), Nat.add_sub_cancel])]
  · rw [va_up_ne _ _ k0]
    by_cases kn : k < 28 * q + 6
    · rw [zg_l kn]
      exact lT_cong (Or.inr ⟨by omega, by omega, by omega⟩) h k0 kn
    · rw [zg_r (by omega), show k = 28 * q + 6 + (k - (28 * q + 6)) by omega, lT_P hq (by omega), show 28 * q + 6 + (k - (28 * q + 6)) - (28 * q + 6) = k - (28 * q + 6) by omega]
theorem lT_stepD (h : ∀ t, t < 258 → a9 t = a t) (k : Nat) (hk : k < 419) : lT cI cO 15 a9 k = va_up (zg 258 (lT cI cO 14 a) (lD cI cO 15 (fun t => a9 (258 + t)))) 0 (.inr (5, (fX vT dT 14 15 a).set 14 (.ref (a9 258)))) k := by
  by_cases k0 : k = 0
  · rw [k0, va_up_self, lT_0, fX_step (fun i hi => vT_cong h (by omega) (by omega) (by omega) (by omega) hi) (show vT a9 14 = .ref (a9 258) by rw [vT, if_neg (by omega), if_neg (by omega), if_neg (by omega), if_neg (by omega)])]
  · rw [va_up_ne _ _ k0]
    by_cases kn : k < 258
    · rw [zg_l kn]
      exact lT_cong (Or.inr ⟨by omega, by omega, by omega⟩) h k0 kn
    · rw [zg_r (by omega), show k = 258 + (k - 258) by omega, lT_D, Nat.add_sub_cancel_left]
end
theorem c_X0_init (l : Launch) {D : va_G} {tys : List (ClassId × FieldType)} {cI cO : ClassId} (hI : tys[0]? = some (cI, .int)) (hQ : tys[1]? = some (cO, .object "TowerFields$Line")) : zMc l yX0_init cX0_init 1 3 160 4120 D tys (.inr (2, List.replicate 15 .null)) 161 (fun (_ : Unit) ad => lD cI cO 15 ad) (fun _ => True) := by
  refine z_goc zm_X0_init rfl (by decide) ?_
  intro p e s m args below meth c A q Q X hnm hO fin
  refine z_aload_n X 0 rfl rfl dX0_init_0 ?_
  refine z_objinit X zw58 (by decide) dX0_init_1 ?_
  refine z_cong9 (N9 := 1) (cells9 := 0) (slots9 := 0) (ad9 := fun _ => q) (g9 := lD cI cO 0 (fun _ => q)) rfl rfl rfl (fun _ _ => rfl) (fun k hk => by rw [show k = 0 by omega]; rfl) ?_
  have h0 : (fun _ : Nat => q) 0 = q := rfl
  generalize (fun _ : Nat => q) = ad0 at X h0 ⊢
  have X0 := X
  clear X
  refine z_aload_n X0 0 rfl rfl dX0_init_4 ?_
  refine z_mk X0 hnm hO (C := RX0) (T := TX0) (NF := 15) (ci := 2) zinX0 tyX0 tyX0_ok nmX0 rfl (fs := fX vD (fun _ => .null) 0 15 ad0) 0 (by decide) (ref := "TowerFields$Divisor") zw63 rfl rfl rfl (ty := .object "TowerFields$Poly") (by decide +kernel) (fun _ => rfl) (fun _ => rfl) (by omega) lD_0 (by rw [fX_len]; decide) h0 (C9 := RX2) (T9 := TX2) (NF9 := 1) (ci9 := 4) (fs9 := [.null]) zinX2 tyX2 tyX2_ok rfl (by decide +kernel) zw59 zw41 zw3 (by decide) zm_X2_init rfl zw43 zw60 ⟨by decide, by decide, by decide, by decide⟩ (c_X2_init l hI hQ) dX0_init_5 dX0_init_8 dX0_init_9 dX0_init_12 (fun _ ad1 h9 _ Xn => ?_)
  replace h0 : ad1 0 = q := (h9 0 (by omega)).trans h0
  have X1 : zCx p s m args meth c cX0_init 1 RX0 none D tys 29 ad1 A := Xn
  refine z_cong9 (N9 := 29) (cells9 := 28) (slots9 := 716) (ad9 := ad1) (g9 := lD cI cO 1 ad1) rfl rfl rfl (fun _ _ => rfl) (fun k hk => lD_stepP (q := 0) (by omega) h9 k hk) ?_
  clear h9 Xn X0
  refine z_aload_n X1 0 rfl rfl dX0_init_15 ?_
  refine z_mk X1 hnm hO (C := RX0) (T := TX0) (NF := 15) (ci := 2) zinX0 tyX0 tyX0_ok nmX0 rfl (fs := fX vD (fun _ => .null) 1 15 ad1) 1 (by decide) (ref := "TowerFields$Divisor") zw65 rfl rfl rfl (ty := .object "TowerFields$Poly") (by decide +kernel) (fun _ => rfl) (fun _ => rfl) (by omega) lD_0 (by rw [fX_len]; decide) h0 (C9 := RX2) (T9 := TX2) (NF9 := 1) (ci9 := 4) (fs9 := [.null]) zinX2 tyX2 tyX2_ok rfl (by decide +kernel) zw59 zw41 zw3 (by decide) zm_X2_init rfl zw43 zw60 ⟨by decide, by decide, by decide, by decide⟩ (c_X2_init l hI hQ) dX0_init_16 dX0_init_19 dX0_init_20 dX0_init_23 (fun _ ad2 h9 _ Xn => ?_)
  replace h0 : ad2 0 = q := (h9 0 (by omega)).trans h0
  have X2 : zCx p s m args meth c cX0_init 1 RX0 none D tys 57 ad2 A := Xn
  refine z_cong9 (N9 := 57) (cells9 := 56) (slots9 := 1432) (ad9 := ad2) (g9 := lD cI cO 2 ad2) rfl rfl rfl (fun _ _ => rfl) (fun k hk => lD_stepP (q := 1) (by omega) h9 k hk) ?_
  clear h9 Xn X1
  refine z_aload_n X2 0 rfl rfl dX0_init_26 ?_
  refine z_mk X2 hnm hO (C := RX0) (T := TX0) (NF := 15) (ci := 2) zinX0 tyX0 tyX0_ok nmX0 rfl (fs := fX vD (fun _ => .null) 2 15 ad2) 2 (by decide) (ref := "TowerFields$Divisor") zw67 rfl rfl rfl (ty := .object "TowerFields$Poly") (by decide +kernel) (fun _ => rfl) (fun _ => rfl) (by omega) lD_0 (by rw [fX_len]; decide) h0 (C9 := RX2) (T9 := TX2) (NF9 := 1) (ci9 := 4) (fs9 := [.null]) zinX2 tyX2 tyX2_ok rfl (by decide +kernel) zw59 zw41 zw3 (by decide) zm_X2_init rfl zw43 zw60 ⟨by decide, by decide, by decide, by decide⟩ (c_X2_init l hI hQ) dX0_init_27 dX0_init_30 dX0_init_31 dX0_init_34 (fun _ ad3 h9 _ Xn => ?_)
  replace h0 : ad3 0 = q := (h9 0 (by omega)).trans h0
  have X3 : zCx p s m args meth c cX0_init 1 RX0 none D tys 85 ad3 A := Xn
  refine z_cong9 (N9 := 85) (cells9 := 84) (slots9 := 2148) (ad9 := ad3) (g9 := lD cI cO 3 ad3) rfl rfl rfl (fun _ _ => rfl) (fun k hk => lD_stepP (q := 2) (by omega) h9 k hk) ?_
  clear h9 Xn X2
  refine z_aload_n X3 0 rfl rfl dX0_init_37 ?_
  refine z_mk X3 hnm hO (C := RX0) (T := TX0) (NF := 15) (ci := 2) zinX0 tyX0 tyX0_ok nmX0 rfl (fs := fX vD (fun _ => .null) 3 15 ad3) 3 (by decide) (ref := "TowerFields$Divisor") zw69 rfl rfl rfl (ty := .object "TowerFields$Poly") (by decide +kernel) (fun _ => rfl) (fun _ => rfl) (by omega) lD_0 (by rw [fX_len]; decide) h0 (C9 := RX2) (T9 := TX2) (NF9 := 1) (ci9 := 4) (fs9 := [.null]) zinX2 tyX2 tyX2_ok rfl (by decide +kernel) zw59 zw41 zw3 (by decide) zm_X2_init rfl zw43 zw60 ⟨by decide, by decide, by decide, by decide⟩ (c_X2_init l hI hQ) dX0_init_38 dX0_init_41 dX0_init_42 dX0_init_45 (fun _ ad4 h9 _ Xn => ?_)
  replace h0 : ad4 0 = q := (h9 0 (by omega)).trans h0
  have X4 : zCx p s m args meth c cX0_init 1 RX0 none D tys 113 ad4 A := Xn
  refine z_cong9 (N9 := 113) (cells9 := 112) (slots9 := 2864) (ad9 := ad4) (g9 := lD cI cO 4 ad4) rfl rfl rfl (fun _ _ => rfl) (fun k hk => lD_stepP (q := 3) (by omega) h9 k hk) ?_
  clear h9 Xn X3
  refine z_aload_n X4 0 rfl rfl dX0_init_48 ?_
  refine z_mk X4 hnm hO (C := RX0) (T := TX0) (NF := 15) (ci := 2) zinX0 tyX0 tyX0_ok nmX0 rfl (fs := fX vD (fun _ => .null) 4 15 ad4) 4 (by decide) (ref := "TowerFields$Divisor") zw70 rfl rfl rfl (ty := .object "TowerFields$Poly") (by decide +kernel) (fun _ => rfl) (fun _ => rfl) (by omega) lD_0 (by rw [fX_len]; decide) h0 (C9 := RX2) (T9 := TX2) (NF9 := 1) (ci9 := 4) (fs9 := [.null]) zinX2 tyX2 tyX2_ok rfl (by decide +kernel) zw59 zw41 zw3 (by decide) zm_X2_init rfl zw43 zw60 ⟨by decide, by decide, by decide, by decide⟩ (c_X2_init l hI hQ) dX0_init_49 dX0_init_52 dX0_init_53 dX0_init_56 (fun _ ad5 h9 _ Xn => ?_)
  replace h0 : ad5 0 = q := (h9 0 (by omega)).trans h0
  have X5 : zCx p s m args meth c cX0_init 1 RX0 none D tys 141 ad5 A := Xn
  refine z_cong9 (N9 := 141) (cells9 := 140) (slots9 := 3580) (ad9 := ad5) (g9 := lD cI cO 5 ad5) rfl rfl rfl (fun _ _ => rfl) (fun k hk => lD_stepP (q := 4) (by omega) h9 k hk) ?_
  clear h9 Xn X4
  refine z_aload_n X5 0 rfl rfl dX0_init_59 ?_
  refine z_mkN (host := "TowerFields") X5 hnm hO (C := RX0) (T := TX0) (NF := 15) (ci := 2) zinX0 tyX0 tyX0_ok nmX0 rfl (fs := fX vD (fun _ => .null) 5 15 ad5) 5 (by decide) (ref := "TowerFields$Divisor") zw71 rfl rfl rfl (ty := .object "TowerFields$Line") (by decide +kernel) (fun _ => rfl) (fun _ => rfl) (by omega) lD_0 (by rw [fX_len]; decide) h0 (C9 := RX1) (T9 := TX1) (NF9 := 2) (ci9 := 3) (fs9 := [.null, .int 0]) zinX1 tyX1 tyX1_ok rfl (by decide +kernel) zw61 zw25 zw2 (by decide) zm_X1_init rfl zw27 (List.mem_of_getElem? (i := 5) rfl) ⟨by decide, by decide, by decide, by decide⟩ (c_X1_init l hI) dX0_init_60 dX0_init_63 dX0_init_64 dX0_init_67 (fun _ ad6 h9 _ Xn => ?_)
  replace h0 : ad6 0 = q := (h9 0 (by omega)).trans h0
  have X6 : zCx p s m args meth c cX0_init 1 RX0 none D tys 143 ad6 A := Xn
  refine z_cong9 (N9 := 143) (cells9 := 142) (slots9 := 3634) (ad9 := ad6) (g9 := lD cI cO 6 ad6) rfl rfl rfl (fun _ _ => rfl) (fun k hk => lD_stepL (r := 0) (by omega) h9 k hk) ?_
  clear h9 Xn X5
  refine z_aload_n X6 0 rfl rfl dX0_init_70 ?_
  refine z_mkN (host := "TowerFields") X6 hnm hO (C := RX0) (T := TX0) (NF := 15) (ci := 2) zinX0 tyX0 tyX0_ok nmX0 rfl (fs := fX vD (fun _ => .null) 6 15 ad6) 6 (by decide) (ref := "TowerFields$Divisor") zw72 rfl rfl rfl (ty := .object "TowerFields$Line") (by decide +kernel) (fun _ => rfl) (fun _ => rfl) (by omega) lD_0 (by rw [fX_len]; decide) h0 (C9 := RX1) (T9 := TX1) (NF9 := 2) (ci9 := 3) (fs9 := [.null, .int 0]) zinX1 tyX1 tyX1_ok rfl (by decide +kernel) zw61 zw25 zw2 (by decide) zm_X1_init rfl zw27 (List.mem_of_getElem? (i := 5) rfl) ⟨by decide, by decide, by decide, by decide⟩ (c_X1_init l hI) dX0_init_71 dX0_init_74 dX0_init_75 dX0_init_78 (fun _ ad7 h9 _ Xn => ?_)
  replace h0 : ad7 0 = q := (h9 0 (by omega)).trans h0
  have X7 : zCx p s m args meth c cX0_init 1 RX0 none D tys 145 ad7 A := Xn
  refine z_cong9 (N9 := 145) (cells9 := 144) (slots9 := 3688) (ad9 := ad7) (g9 := lD cI cO 7 ad7) rfl rfl rfl (fun _ _ => rfl) (fun k hk => lD_stepL (r := 1) (by omega) h9 k hk) ?_
  clear h9 Xn X6
  refine z_aload_n X7 0 rfl rfl dX0_init_81 ?_
  refine z_mkN (host := "TowerFields") X7 hnm hO (C := RX0) (T := TX0) (NF := 15) (ci := 2) zinX0 tyX0 tyX0_ok nmX0 rfl (fs := fX vD (fun _ => .null) 7 15 ad7) 7 (by decide) (ref := "TowerFields$Divisor") zw73 rfl rfl rfl (ty := .object "TowerFields$Line") (by decide +kernel) (fun _ => rfl) (fun _ => rfl) (by omega) lD_0 (by rw [fX_len]; decide) h0 (C9 := RX1) (T9 := TX1) (NF9 := 2) (ci9 := 3) (fs9 := [.null, .int 0]) zinX1 tyX1 tyX1_ok rfl (by decide +kernel) zw61 zw25 zw2 (by decide) zm_X1_init rfl zw27 (List.mem_of_getElem? (i := 5) rfl) ⟨by decide, by decide, by decide, by decide⟩ (c_X1_init l hI) dX0_init_82 dX0_init_85 dX0_init_86 dX0_init_89 (fun _ ad8 h9 _ Xn => ?_)
  replace h0 : ad8 0 = q := (h9 0 (by omega)).trans h0
  have X8 : zCx p s m args meth c cX0_init 1 RX0 none D tys 147 ad8 A := Xn
  refine z_cong9 (N9 := 147) (cells9 := 146) (slots9 := 3742) (ad9 := ad8) (g9 := lD cI cO 8 ad8) rfl rfl rfl (fun _ _ => rfl) (fun k hk => lD_stepL (r := 2) (by omega) h9 k hk) ?_
  clear h9 Xn X7
  refine z_aload_n X8 0 rfl rfl dX0_init_92 ?_
  refine z_mkN (host := "TowerFields") X8 hnm hO (C := RX0) (T := TX0) (NF := 15) (ci := 2) zinX0 tyX0 tyX0_ok nmX0 rfl (fs := fX vD (fun _ => .null) 8 15 ad8) 8 (by decide) (ref := "TowerFields$Divisor") zw74 rfl rfl rfl (ty := .object "TowerFields$Line") (by decide +kernel) (fun _ => rfl) (fun _ => rfl) (by omega) lD_0 (by rw [fX_len]; decide) h0 (C9 := RX1) (T9 := TX1) (NF9 := 2) (ci9 := 3) (fs9 := [.null, .int 0]) zinX1 tyX1 tyX1_ok rfl (by decide +kernel) zw61 zw25 zw2 (by decide) zm_X1_init rfl zw27 (List.mem_of_getElem? (i := 5) rfl) ⟨by decide, by decide, by decide, by decide⟩ (c_X1_init l hI) dX0_init_93 dX0_init_96 dX0_init_97 dX0_init_100 (fun _ ad9 h9 _ Xn => ?_)
  replace h0 : ad9 0 = q := (h9 0 (by omega)).trans h0
  have X9 : zCx p s m args meth c cX0_init 1 RX0 none D tys 149 ad9 A := Xn
  refine z_cong9 (N9 := 149) (cells9 := 148) (slots9 := 3796) (ad9 := ad9) (g9 := lD cI cO 9 ad9) rfl rfl rfl (fun _ _ => rfl) (fun k hk => lD_stepL (r := 3) (by omega) h9 k hk) ?_
  clear h9 Xn X8
  refine z_aload_n X9 0 rfl rfl dX0_init_103 ?_
  refine z_mkN (host := "TowerFields") X9 hnm hO (C := RX0) (T := TX0) (NF := 15) (ci := 2) zinX0 tyX0 tyX0_ok nmX0 rfl (fs := fX vD (fun _ => .null) 9 15 ad9) 9 (by decide) (ref := "TowerFields$Divisor") zw75 rfl rfl rfl (ty := .object "TowerFields$Line") (by decide +kernel) (fun _ => rfl) (fun _ => rfl) (by omega) lD_0 (by rw [fX_len]; decide) h0 (C9 := RX1) (T9 := TX1) (NF9 := 2) (ci9 := 3) (fs9 := [.null, .int 0]) zinX1 tyX1 tyX1_ok rfl (by decide +kernel) zw61 zw25 zw2 (by decide) zm_X1_init rfl zw27 (List.mem_of_getElem? (i := 5) rfl) ⟨by decide, by decide, by decide, by decide⟩ (c_X1_init l hI) dX0_init_104 dX0_init_107 dX0_init_108 dX0_init_111 (fun _ ad10 h9 _ Xn => ?_)
  replace h0 : ad10 0 = q := (h9 0 (by omega)).trans h0
  have X10 : zCx p s m args meth c cX0_init 1 RX0 none D tys 151 ad10 A := Xn
  refine z_cong9 (N9 := 151) (cells9 := 150) (slots9 := 3850) (ad9 := ad10) (g9 := lD cI cO 10 ad10) rfl rfl rfl (fun _ _ => rfl) (fun k hk => lD_stepL (r := 4) (by omega) h9 k hk) ?_
  clear h9 Xn X9
  refine z_aload_n X10 0 rfl rfl dX0_init_114 ?_
  refine z_mkN (host := "TowerFields") X10 hnm hO (C := RX0) (T := TX0) (NF := 15) (ci := 2) zinX0 tyX0 tyX0_ok nmX0 rfl (fs := fX vD (fun _ => .null) 10 15 ad10) 10 (by decide) (ref := "TowerFields$Divisor") zw76 rfl rfl rfl (ty := .object "TowerFields$Line") (by decide +kernel) (fun _ => rfl) (fun _ => rfl) (by omega) lD_0 (by rw [fX_len]; decide) h0 (C9 := RX1) (T9 := TX1) (NF9 := 2) (ci9 := 3) (fs9 := [.null, .int 0]) zinX1 tyX1 tyX1_ok rfl (by decide +kernel) zw61 zw25 zw2 (by decide) zm_X1_init rfl zw27 (List.mem_of_getElem? (i := 5) rfl) ⟨by decide, by decide, by decide, by decide⟩ (c_X1_init l hI) dX0_init_115 dX0_init_118 dX0_init_119 dX0_init_122 (fun _ ad11 h9 _ Xn => ?_)
  replace h0 : ad11 0 = q := (h9 0 (by omega)).trans h0
  have X11 : zCx p s m args meth c cX0_init 1 RX0 none D tys 153 ad11 A := Xn
  refine z_cong9 (N9 := 153) (cells9 := 152) (slots9 := 3904) (ad9 := ad11) (g9 := lD cI cO 11 ad11) rfl rfl rfl (fun _ _ => rfl) (fun k hk => lD_stepL (r := 5) (by omega) h9 k hk) ?_
  clear h9 Xn X10
  refine z_aload_n X11 0 rfl rfl dX0_init_125 ?_
  refine z_mkN (host := "TowerFields") X11 hnm hO (C := RX0) (T := TX0) (NF := 15) (ci := 2) zinX0 tyX0 tyX0_ok nmX0 rfl (fs := fX vD (fun _ => .null) 11 15 ad11) 11 (by decide) (ref := "TowerFields$Divisor") zw77 rfl rfl rfl (ty := .object "TowerFields$Line") (by decide +kernel) (fun _ => rfl) (fun _ => rfl) (by omega) lD_0 (by rw [fX_len]; decide) h0 (C9 := RX1) (T9 := TX1) (NF9 := 2) (ci9 := 3) (fs9 := [.null, .int 0]) zinX1 tyX1 tyX1_ok rfl (by decide +kernel) zw61 zw25 zw2 (by decide) zm_X1_init rfl zw27 (List.mem_of_getElem? (i := 5) rfl) ⟨by decide, by decide, by decide, by decide⟩ (c_X1_init l hI) dX0_init_126 dX0_init_129 dX0_init_130 dX0_init_133 (fun _ ad12 h9 _ Xn => ?_)
  replace h0 : ad12 0 = q := (h9 0 (by omega)).trans h0
  have X12 : zCx p s m args meth c cX0_init 1 RX0 none D tys 155 ad12 A := Xn
  refine z_cong9 (N9 := 155) (cells9 := 154) (slots9 := 3958) (ad9 := ad12) (g9 := lD cI cO 12 ad12) rfl rfl rfl (fun _ _ => rfl) (fun k hk => lD_stepL (r := 6) (by omega) h9 k hk) ?_
  clear h9 Xn X11
  refine z_aload_n X12 0 rfl rfl dX0_init_136 ?_
  refine z_mkN (host := "TowerFields") X12 hnm hO (C := RX0) (T := TX0) (NF := 15) (ci := 2) zinX0 tyX0 tyX0_ok nmX0 rfl (fs := fX vD (fun _ => .null) 12 15 ad12) 12 (by decide) (ref := "TowerFields$Divisor") zw78 rfl rfl rfl (ty := .object "TowerFields$Line") (by decide +kernel) (fun _ => rfl) (fun _ => rfl) (by omega) lD_0 (by rw [fX_len]; decide) h0 (C9 := RX1) (T9 := TX1) (NF9 := 2) (ci9 := 3) (fs9 := [.null, .int 0]) zinX1 tyX1 tyX1_ok rfl (by decide +kernel) zw61 zw25 zw2 (by decide) zm_X1_init rfl zw27 (List.mem_of_getElem? (i := 5) rfl) ⟨by decide, by decide, by decide, by decide⟩ (c_X1_init l hI) dX0_init_137 dX0_init_140 dX0_init_141 dX0_init_144 (fun _ ad13 h9 _ Xn => ?_)
  replace h0 : ad13 0 = q := (h9 0 (by omega)).trans h0
  have X13 : zCx p s m args meth c cX0_init 1 RX0 none D tys 157 ad13 A := Xn
  refine z_cong9 (N9 := 157) (cells9 := 156) (slots9 := 4012) (ad9 := ad13) (g9 := lD cI cO 13 ad13) rfl rfl rfl (fun _ _ => rfl) (fun k hk => lD_stepL (r := 7) (by omega) h9 k hk) ?_
  clear h9 Xn X12
  refine z_aload_n X13 0 rfl rfl dX0_init_147 ?_
  refine z_mkN (host := "TowerFields") X13 hnm hO (C := RX0) (T := TX0) (NF := 15) (ci := 2) zinX0 tyX0 tyX0_ok nmX0 rfl (fs := fX vD (fun _ => .null) 13 15 ad13) 13 (by decide) (ref := "TowerFields$Divisor") zw79 rfl rfl rfl (ty := .object "TowerFields$Line") (by decide +kernel) (fun _ => rfl) (fun _ => rfl) (by omega) lD_0 (by rw [fX_len]; decide) h0 (C9 := RX1) (T9 := TX1) (NF9 := 2) (ci9 := 3) (fs9 := [.null, .int 0]) zinX1 tyX1 tyX1_ok rfl (by decide +kernel) zw61 zw25 zw2 (by decide) zm_X1_init rfl zw27 (List.mem_of_getElem? (i := 5) rfl) ⟨by decide, by decide, by decide, by decide⟩ (c_X1_init l hI) dX0_init_148 dX0_init_151 dX0_init_152 dX0_init_155 (fun _ ad14 h9 _ Xn => ?_)
  replace h0 : ad14 0 = q := (h9 0 (by omega)).trans h0
  have X14 : zCx p s m args meth c cX0_init 1 RX0 none D tys 159 ad14 A := Xn
  refine z_cong9 (N9 := 159) (cells9 := 158) (slots9 := 4066) (ad9 := ad14) (g9 := lD cI cO 14 ad14) rfl rfl rfl (fun _ _ => rfl) (fun k hk => lD_stepL (r := 8) (by omega) h9 k hk) ?_
  clear h9 Xn X13
  refine z_aload_n X14 0 rfl rfl dX0_init_158 ?_
  refine z_mkN (host := "TowerFields") X14 hnm hO (C := RX0) (T := TX0) (NF := 15) (ci := 2) zinX0 tyX0 tyX0_ok nmX0 rfl (fs := fX vD (fun _ => .null) 14 15 ad14) 14 (by decide) (ref := "TowerFields$Divisor") zw80 rfl rfl rfl (ty := .object "TowerFields$Line") (by decide +kernel) (fun _ => rfl) (fun _ => rfl) (by omega) lD_0 (by rw [fX_len]; decide) h0 (C9 := RX1) (T9 := TX1) (NF9 := 2) (ci9 := 3) (fs9 := [.null, .int 0]) zinX1 tyX1 tyX1_ok rfl (by decide +kernel) zw61 zw25 zw2 (by decide) zm_X1_init rfl zw27 (List.mem_of_getElem? (i := 5) rfl) ⟨by decide, by decide, by decide, by decide⟩ (c_X1_init l hI) dX0_init_159 dX0_init_162 dX0_init_163 dX0_init_166 (fun _ ad15 h9 _ Xn => ?_)
  replace h0 : ad15 0 = q := (h9 0 (by omega)).trans h0
  have X15 : zCx p s m args meth c cX0_init 1 RX0 none D tys 161 ad15 A := Xn
  refine z_cong9 (N9 := 161) (cells9 := 160) (slots9 := 4120) (ad9 := ad15) (g9 := lD cI cO 15 ad15) rfl rfl rfl (fun _ _ => rfl) (fun k hk => lD_stepL (r := 9) (by omega) h9 k hk) ?_
  clear h9 Xn X14
  exact fin () (by decide) (by decide) X15 h0 (fun j hj => rfl) trivial dX0_init_169
