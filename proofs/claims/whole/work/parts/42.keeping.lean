/-! the class's own numbers -/
def un (S : zS) (f : Nat → FP) : zS := (S.1, S.2.1, S.2.2.1, f, S.2.2.2.2)
def um (S : zS) (z : Int) : zS := (S.1, S.2.1, S.2.2.1, S.2.2.2.1, z, S.2.2.2.2.2)
def uk (S : zS) (z : Int) : zS := (S.1, S.2.1, S.2.2.1, S.2.2.2.1, S.2.2.2.2.1, z)
section
variable {ad : Nat → Nat} {cI cO : ClassId} {S : zS}
theorem gC_T_ext (S S' : zS) (h1 : S'.1 = S.1) (h2 : S'.2.1 = S.2.1) (h3 : S'.2.2.1 = S.2.2.1) (h4 : S'.2.2.2.1 = S.2.2.2.1) (v : va_E) (hv : v = gC ad cI cO S' 0) : va_up (gC ad cI cO S) 0 v = gC ad cI cO S' := by
  funext k
  rcases gC_cases k with rfl | rfl | rfl | ⟨q, hq, rfl⟩ | ⟨q, hq, rfl⟩ | ⟨q, hq, rfl⟩ | ⟨b, rfl⟩
  · rw [va_up_self, hv]
  · rw [va_up_ne _ _ (by omega), gC_N, gC_N, h4]
  · rw [va_up_ne _ _ (by omega), gC_D, gC_D]
  · rw [va_up_ne _ _ (by omega), gC_P hq, gC_P hq]
  · rw [va_up_ne _ _ (by omega), gC_W hq, gC_W hq]
  · rw [va_up_ne _ _ (by omega), gC_L hq, gC_L hq, h1, h3]
  · rw [va_up_ne _ _ (by omega), gC_A, gC_A, h2]
theorem gC_un (f : Nat → FP) : va_up (gC ad cI cO S) 1 (.inl (cI, 11760, .inl (fun j => iZ (vz (f j))))) = gC ad cI cO (un S f) := by
  funext k
  rcases gC_cases k with rfl | rfl | rfl | ⟨q, hq, rfl⟩ | ⟨q, hq, rfl⟩ | ⟨q, hq, rfl⟩ | ⟨b, rfl⟩
  · rw [va_up_ne _ _ (by omega), gC_T, gC_T]; rfl
  · rw [va_up_self, gC_N]; rfl
  · rw [va_up_ne _ _ (by omega), gC_D, gC_D]
  · rw [va_up_ne _ _ (by omega), gC_P hq, gC_P hq]
  · rw [va_up_ne _ _ (by omega), gC_W hq, gC_W hq]
  · rw [va_up_ne _ _ (by omega), gC_L hq, gC_L hq]; rfl
  · rw [va_up_ne _ _ (by omega), gC_A, gC_A]; rfl
theorem zR_un {U : Type} [Lean.Grind.CommRing U] {cu : U → Nat → FP} {P : Nat → U} {T : zRest} {S : zS} (h : zR cu P T S) (f : Nat → FP) : zR cu P (f, T.2) (un S f) := ⟨h.1, h.2.1, h.2.2.1, h.2.2.2.1, h.2.2.2.2.1, by show (f, S.2.2.2.2) = (f, T.2); rw [h.2.2.2.2.2]⟩
theorem zR_um {U : Type} [Lean.Grind.CommRing U] {cu : U → Nat → FP} {P : Nat → U} {T : zRest} {S : zS} (h : zR cu P T S) (z : Int) : zR cu P (T.1, z, T.2.2) (um S z) := ⟨h.1, h.2.1, h.2.2.1, h.2.2.2.1, h.2.2.2.2.1, by show (S.2.2.2.1, z, S.2.2.2.2.2) = (T.1, z, T.2.2); rw [h.2.2.2.2.2]⟩
theorem zR_uk {U : Type} [Lean.Grind.CommRing U] {cu : U → Nat → FP} {P : Nat → U} {T : zRest} {S : zS} (h : zR cu P T S) (z : Int) : zR cu P (T.1, T.2.1, z) (uk S z) := ⟨h.1, h.2.1, h.2.2.1, h.2.2.2.1, h.2.2.2.2.1, by show (S.2.2.2.1, S.2.2.2.2.1, z) = (T.1, T.2.1, z); rw [h.2.2.2.2.2]⟩
end
section ZT
variable {p : Program} {l : Launch} {e : Env} {R : Room} {s : State} {m : MethodId} {args : Array Value} {below : List Frame} {meth : Method} {c : Code} {cc : ByteArray} {nL : Nat} {own : String} {ret : Option FieldType} {D : va_G} {ad : Nat → Nat} {cI cO : ClassId} {A : Nat → Prop} {cells slots : Nat} {Q : State → Prop} {pc : Nat} {lv : List (Nat × Value)} {st : List Value} {S : zS}
theorem zt_pmade (X : zCx p s m args meth c cc nL RX3 ret D (zTy cI cO) 419 ad A) {z : Int} (hd : decode cc pc = .ok (.putfield 13, 3)) (kk : Z p l e R s m args below meth c nL D 419 ad A cells slots Q (pc + 3) lv st (gC ad cI cO (um S z))) : Z p l e R s m args below meth c nL D 419 ad A cells slots Q pc lv (.int (iZ z) :: .ref (ad 0) :: st) (gC ad cI cO S) :=
  z_put X zinX3 tyX3 tyX3_ok nmX3 0 (by omega) gC_T (ci := 5) rfl 1 (by decide) (ref := "TowerFields") zw121 rfl rfl (ty := .int) (by decide +kernel) rfl rfl (Nat.le_of_ble_eq_true rfl) hd (z_eqg (gC_T_ext S (um S z) rfl rfl rfl rfl _ (by rw [gC_T]; rfl)) kk)
theorem zt_pkind (X : zCx p s m args meth c cc nL RX3 ret D (zTy cI cO) 419 ad A) {z : Int} (hd : decode cc pc = .ok (.putfield 17, 3)) (kk : Z p l e R s m args below meth c nL D 419 ad A cells slots Q (pc + 3) lv st (gC ad cI cO (uk S z))) : Z p l e R s m args below meth c nL D 419 ad A cells slots Q pc lv (.int (iZ z) :: .ref (ad 0) :: st) (gC ad cI cO S) :=
  z_put X zinX3 tyX3 tyX3_ok nmX3 0 (by omega) gC_T (ci := 5) rfl 2 (by decide) (ref := "TowerFields") zw122 rfl rfl (ty := .int) (by decide +kernel) rfl rfl (Nat.le_of_ble_eq_true rfl) hd (z_eqg (gC_T_ext S (uk S z) rfl rfl rfl rfl _ (by rw [gC_T]; rfl)) kk)
theorem zt_len (X : zCx p s m args meth c cc nL own ret D (zTy cI cO) 419 ad A)  (hd : decode cc pc = .ok (.arraylength, 1)) (kk : Z p l e R s m args below meth c nL D 419 ad A cells slots Q (pc + 1) lv (.int (iZ 11760) :: st) (gC ad cI cO S)) : Z p l e R s m args below meth c nL D 419 ad A cells slots Q pc lv (.ref (ad 1) :: st) (gC ad cI cO S) :=
  z_alen X 1 0 (by omega) gC_N rfl hd kk
theorem zt_ld (X : zCx p s m args meth c cc nL own ret D (zTy cI cO) 419 ad A) {i : Int} (h0 : 0 ≤ i) (h1 : i < 11760) (v : FP) (hv : S.2.2.2.1 i.toNat = v) (hd : decode cc pc = .ok (.iaload, 1)) (kk : Z p l e R s m args below meth c nL D 419 ad A cells slots Q (pc + 1) lv (.int (iZ (vz v)) :: st) (gC ad cI cO S)) : Z p l e R s m args below meth c nL D 419 ad A cells slots Q pc lv (.int (iZ i) :: .ref (ad 1) :: st) (gC ad cI cO S) :=
  z_iald X 1 0 (by omega) gC_N rfl h0 (by omega) (by omega) hd (by rw [hv]; exact kk)
theorem zt_st (X : zCx p s m args meth c cc nL own ret D (zTy cI cO) 419 ad A) {i : Int} (h0 : 0 ≤ i) (h1 : i < 11760) (v : FP) (hd : decode cc pc = .ok (.iastore, 1)) (kk : Z p l e R s m args below meth c nL D 419 ad A cells slots Q (pc + 1) lv st (gC ad cI cO (un S (va_up S.2.2.2.1 i.toNat v)))) : Z p l e R s m args below meth c nL D 419 ad A cells slots Q pc lv (.int (iZ (vz v)) :: .int (iZ i) :: .ref (ad 1) :: st) (gC ad cI cO S) :=
  by
  refine z_iast X 1 0 (by omega) gC_N rfl h0 (by omega) (by omega) hd (z_eqg ?_ kk)
  rw [zl_upd, gC_un]
end ZT
set_option maxHeartbeats 8000000 in
set_option maxRecDepth 100000 in
theorem c_X3_place (l : Launch) {D : va_G} {tys : List (ClassId × FieldType)} {N : Nat} {ad : Nat → Nat} (g : Nat → va_E) (a b i j : Int) : zMi l yX3_place cX3_place 4 (some .int) 0 D tys N ad [.int (iZ a), .int (iZ b), .int (iZ i), .int (iZ j)] g (fun _ : Unit => g) (fun z _ => z = 98 * a + 49 * b + 7 * i + j) := by
  refine z_goi zm_X3_place (Nat.le_of_ble_eq_true rfl) [(0, .int (iZ (a))), (1, .int (iZ (b))), (2, .int (iZ (i))), (3, .int (iZ (j)))] rfl (fun p e s m args below meth c A Q X E => ?_)
  refine z_iload_n X 0 rfl rfl dX3_place_0 ?_
  refine z_iconst X (n := 2) dX3_place_1 ?_
  refine z_imul X dX3_place_2 ?_
  refine z_iload_n X 1 rfl rfl dX3_place_3 ?_
  refine z_iadd X dX3_place_4 ?_
  refine z_bipush X (n := 7) (by decide) dX3_place_5 ?_
  refine z_imul X dX3_place_7 ?_
  refine z_iload_n X 2 rfl rfl dX3_place_8 ?_
  refine z_iadd X dX3_place_9 ?_
  refine z_bipush X (n := 7) (by decide) dX3_place_10 ?_
  refine z_imul X dX3_place_12 ?_
  refine z_iload_n X 3 rfl rfl dX3_place_13 ?_
  refine z_iadd X dX3_place_14 ?_
  exact E () (by omega) rfl dX3_place_15
set_option maxHeartbeats 8000000 in
set_option maxRecDepth 100000 in
theorem c_X3_stored (l : Launch) {D : va_G} {ad : Nat → Nat} {cI cO : ClassId} (S : zS) {z : Int} (h0 : 0 ≤ z) (h1 : z < 11760) : zMi l yX3_stored cX3_stored 2 (some .int) 0 D (zTy cI cO) 419 ad [.ref (ad 0), .int (iZ z)] (gC ad cI cO S) (fun _ : Unit => gC ad cI cO S) (fun r _ => r = vz (S.2.2.2.1 z.toNat)) := by
  refine z_goi zm_X3_stored (Nat.le_of_ble_eq_true rfl) [(0, .ref (ad 0)), (1, .int (iZ (z)))] rfl (fun p e s m args below meth c A Q X E => ?_)
  refine z_iload_n X 1 rfl rfl dX3_stored_0 ?_
  refine z_if_lt X (tgt := 22) (by omega) dX3_stored_1 (by decide) (fun hb1 => absurd hb1 (by omega)) (fun hb1 => ?_)
  refine z_iload_n X 1 rfl rfl dX3_stored_4 ?_
  refine z_aload_n X 0 rfl rfl dX3_stored_5 ?_
  refine z_get X zinX3 0 (by omega) gC_T (ci := 5) rfl 0 (by decide) (ref := "TowerFields") zw120 rfl rfl dX3_stored_6 ?_
  refine zt_len X dX3_stored_9 ?_
  refine z_icmp_ge X (tgt := 22) (by omega) (by omega) dX3_stored_10 (by decide) (fun hb10 => absurd hb10 (by omega)) (fun hb10 => ?_)
  refine z_aload_n X 0 rfl rfl dX3_stored_13 ?_
  refine z_get X zinX3 0 (by omega) gC_T (ci := 5) rfl 0 (by decide) (ref := "TowerFields") zw120 rfl rfl dX3_stored_14 ?_
  refine z_iload_n X 1 rfl rfl dX3_stored_17 ?_
  refine zt_ld X (by omega) (by omega) (S.2.2.2.1 (z).toNat) rfl dX3_stored_18 ?_
  refine z_goto X (tgt := 23) dX3_stored_19 (by decide) ?_
  exact E () rfl rfl dX3_stored_23
set_option maxHeartbeats 8000000 in
set_option maxRecDepth 100000 in
theorem c_X3_store (l : Launch) {D : va_G} {ad : Nat → Nat} {cI cO : ClassId} (S : zS) {z : Int} (h0 : 0 ≤ z) (h1 : z < 11760) (v : FP) : zMv l yX3_store cX3_store 3 0 D (zTy cI cO) 419 ad [.ref (ad 0), .int (iZ z), .int (iZ (vz v))] (gC ad cI cO S) (gC ad cI cO) (fun u => u = un S (va_up S.2.2.2.1 z.toNat v)) := by
  refine z_gov zm_X3_store (Nat.le_of_ble_eq_true rfl) [(0, .ref (ad 0)), (1, .int (iZ (z))), (2, .int (iZ (vz v)))] rfl (fun p e s m args below meth c A Q X E => ?_)
  refine z_iload_n X 1 rfl rfl dX3_store_0 ?_
  refine z_if_lt X (tgt := 20) (by omega) dX3_store_1 (by decide) (fun hb1 => absurd hb1 (by omega)) (fun hb1 => ?_)
  refine z_iload_n X 1 rfl rfl dX3_store_4 ?_
  refine z_aload_n X 0 rfl rfl dX3_store_5 ?_
  refine z_get X zinX3 0 (by omega) gC_T (ci := 5) rfl 0 (by decide) (ref := "TowerFields") zw120 rfl rfl dX3_store_6 ?_
  refine zt_len X dX3_store_9 ?_
  refine z_icmp_ge X (tgt := 20) (by omega) (by omega) dX3_store_10 (by decide) (fun hb10 => absurd hb10 (by omega)) (fun hb10 => ?_)
  refine z_aload_n X 0 rfl rfl dX3_store_13 ?_
  refine z_get X zinX3 0 (by omega) gC_T (ci := 5) rfl 0 (by decide) (ref := "TowerFields") zw120 rfl rfl dX3_store_14 ?_
  refine z_iload_n X 1 rfl rfl dX3_store_17 ?_
  refine z_iload_n X 2 rfl rfl dX3_store_18 ?_
  refine zt_st X (by omega) (by omega) (v) dX3_store_19 ?_
  exact E _ rfl rfl dX3_store_20
section
variable {U A : Type}
/-- the numbers from place n on are those of a -/
def zB [Lean.Grind.CommRing U] [Lean.Grind.CommRing A] (cu : U → Nat → FP) (ca : A → Nat → U) (f : Nat → FP) (n : Nat) (a : A) : Prop := (∀ i j, i < 7 → j < 7 → f (n + 7 * i + j) = cu (ca a i) j) ∧ mp_sz ca a ≤ 7 ∧ mp_xz cu ca a ≤ 7
end
set_option maxHeartbeats 8000000 in
set_option maxRecDepth 100000 in
theorem c_X3_load {U V : Type} [Lean.Grind.CommRing U] [Lean.Grind.CommRing V] {cu : U → Nat → FP} {ca : V → Nat → U} (HU : mp_P cu) (HA : mp_P ca) (l : Launch) {D : va_G} {ad : Nat → Nat} {cI cO : ClassId} {P : Nat → U} {T : zRest} {S : zS} (hR : zR cu P T S) {q : Nat} (hq : q < 14) {a0 b0 : Int} (ha0 : 0 ≤ a0) (ha1 : a0 < 120) (hb0 : 0 ≤ b0) (hb1 : b0 < 2) {f : V} (hB : zB cu ca T.1 (98 * a0 + 49 * b0).toNat f) : zMv l yX3_load cX3_load 7 2 D (zTy cI cO) 419 ad [.ref (ad 0), .int (iZ a0), .int (iZ b0), .ref (ad (q + 3))] (gC ad cI cO S) (gC ad cI cO) (fun u => zR cu (pA ca P q f) T u) := by
  refine z_gov zm_X3_load (Nat.le_of_ble_eq_true rfl) [(0, .ref (ad 0)), (1, .int (iZ (a0))), (2, .int (iZ (b0))), (3, .ref (ad (q + 3)))] rfl (fun p e s m args below meth c A Q X E => ?_)
  have hrow : ∀ i, mp_sz cu (ca f i) ≤ 7 := fun i => Nat.le_trans (mp_xz_row HU HA f i) hB.2.2
  have loop : ∀ (n : Nat) (i : Int) (P1 : Nat → U) (S1 : zS) (lv : List (Nat × Value)) (ks : List Nat), i + n = 7 → 0 ≤ i → zR cu P1 T S1 → (∀ j, (j < 13 * q ∨ 13 * q + 13 ≤ j) → P1 j = P j) → (∀ r, r < 13 → P1 (13 * q + r) = if (r : Int) < i then ca f r else 0) → lv_pick lv ks = [(4, .int (iZ (i))), (0, .ref (ad 0)), (1, .int (iZ (a0))), (2, .int (iZ (b0))), (3, .ref (ad (q + 3)))] → Z p l e (zRm 2) s m args below meth c 7 D 419 ad A 0 0 Q 7 lv [] (gC ad cI cO S1) := by
    intro n
    induction n with
    | zero =>
      intro i P1 S1 lv ks h1 h2 h3 h4 h5 hlv
      refine z_sub ks hlv ?_
      refine z_iload X 0 rfl dX3_load_7 ?_
      refine z_bipush X (n := 7) (by decide) dX3_load_9 ?_
      refine z_icmp_ge X (tgt := 69) (by omega) (by omega) dX3_load_11 (by decide) (fun hb11 => ?_) (fun hb11 => absurd hb11 (by omega))
      refine E S1 (zR_cong h3 (fun j hj => ?_)) rfl dX3_load_69
      by_cases hjq : j < 13 * q ∨ 13 * q + 13 ≤ j
      · rw [pA_out ca P q f hjq, h4 j hjq]
      · obtain ⟨r, hr, rfl⟩ : ∃ r, r < 13 ∧ j = 13 * q + r := ⟨j - 13 * q, by omega, by omega⟩
        rw [pA_in ca P q f hr, h5 r hr]
        split
        · rfl
        · rw [mp_sz_out HA (by have := hB.2.1; omega)]
    | succ n ih =>
      intro i P1 S1 lv ks h1 h2 h3 h4 h5 hlv
      refine z_sub ks hlv ?_
      refine z_iload X 0 rfl dX3_load_7 ?_
      refine z_bipush X (n := 7) (by decide) dX3_load_9 ?_
      refine z_icmp_ge X (tgt := 69) (by omega) (by omega) dX3_load_11 (by decide) (fun hb11 => absurd hb11 (by omega)) (fun hb11 => ?_)
      refine z_iconst X (n := 0) dX3_load_14 ?_
      refine z_istore X [(5, .int (iZ (0))), (4, .int (iZ (i))), (0, .ref (ad 0)), (1, .int (iZ (a0))), (2, .int (iZ (b0))), (3, .ref (ad (q + 3)))] rfl (by decide) dX3_load_15 ?_
      have inner : ∀ (n2 : Nat) (j : Int) (P2 : Nat → U) (S2 : zS) (lv : List (Nat × Value)) (ks : List Nat), j + n2 = 7 → 0 ≤ j → zR cu P2 T S2 → (∀ k, k ≠ 13 * q + i.toNat → P2 k = P1 k) → P2 (13 * q + i.toNat) = pq_lo cu (ca f i.toNat) j.toNat → lv_pick lv ks = [(5, .int (iZ (j))), (4, .int (iZ (i))), (0, .ref (ad 0)), (1, .int (iZ (a0))), (2, .int (iZ (b0))), (3, .ref (ad (q + 3)))] → Z p l e (zRm 2) s m args below meth c 7 D 419 ad A 0 0 Q 17 lv [] (gC ad cI cO S2) := by
        intro n2
        induction n2 with
        | zero =>
          intro j P2 S2 lv ks g1 g2 g3 g4 g5 hlv2
          refine z_sub ks hlv2 ?_
          refine z_iload X 0 rfl dX3_load_17 ?_
          refine z_bipush X (n := 7) (by decide) dX3_load_19 ?_
          refine z_icmp_ge X (tgt := 63) (by omega) (by omega) dX3_load_21 (by decide) (fun hb21 => ?_) (fun hb21 => absurd hb21 (by omega))
          refine z_iinc X [(4, .int (iZ (i + 1))), (5, .int (iZ (j))), (0, .ref (ad 0)), (1, .int (iZ (a0))), (2, .int (iZ (b0))), (3, .ref (ad (q + 3)))] 1 rfl rfl (by decide) dX3_load_63 ?_
          refine z_goto X (tgt := 7) dX3_load_66 (by decide) ?_
          refine ih (i + 1) P2 S2 _ [0, 2, 3, 4, 5] (by omega) (by omega) g3 (fun k hk => by rw [g4 k (by omega), h4 k hk]) (fun r hr => ?_) rfl
          by_cases e1 : r = i.toNat
          · rw [e1, g5, pq_lo_z HU (Nat.le_trans (hrow _) (by omega)), if_pos (by omega)]
          · rw [g4 _ (by omega), h5 r hr]
            by_cases e2 : (r : Int) < i
            · rw [if_pos e2, if_pos (by omega)]
            · rw [if_neg e2, if_neg (by omega)]
        | succ n2 ih2 =>
          intro j P2 S2 lv ks g1 g2 g3 g4 g5 hlv2
          refine z_sub ks hlv2 ?_
          obtain ⟨v, hv⟩ : ∃ v : FP, v = cu (ca f i.toNat) j.toNat := ⟨_, rfl⟩
          refine z_iload X 0 rfl dX3_load_17 ?_
          refine z_bipush X (n := 7) (by decide) dX3_load_19 ?_
          refine z_icmp_ge X (tgt := 63) (by omega) (by omega) dX3_load_21 (by decide) (fun hb21 => absurd hb21 (by omega)) (fun hb21 => ?_)
          refine z_aload_n X 2 rfl rfl dX3_load_24 ?_
          refine z_iload_n X 3 rfl rfl dX3_load_25 ?_
          refine z_iload_n X 4 rfl rfl dX3_load_26 ?_
          refine z_iload X 1 rfl dX3_load_27 ?_
          refine z_iload X 0 rfl dX3_load_29 ?_
          refine z_callSi X zm_X3_place zw298 zw297 (zFit_of (by decide) (by decide)) [.int (iZ (a0)), .int (iZ (b0)), .int (iZ (i)), .int (iZ (j))] (c_X3_place l (gC ad cI cO S2) a0 b0 i j) rfl rfl (Nat.le_of_ble_eq_true rfl) dX3_load_31 (fun z _ hz => ?_)
          subst hz
          refine z_callVi X zm_X3_stored zw390 zp9 zw388 (zFit_of (by decide) (by decide)) [.int (iZ (98 * a0 + 49 * b0 + 7 * i + j))] (c_X3_stored l S2 (z := 98 * a0 + 49 * b0 + 7 * i + j) (by omega) (by omega)) rfl rfl (Nat.le_of_ble_eq_true rfl) (by omega) gC_T (q := vwCl[5]) rfl rfl dX3_load_34 (fun z _ hz => ?_)
          rw [g3.2.2.2.2.2, show (98 * a0 + 49 * b0 + 7 * i + j).toNat = (98 * a0 + 49 * b0).toNat + 7 * i.toNat + j.toNat by omega, hB.1 _ _ (by omega) (by omega), ← hv] at hz
          subst hz
          have hv0 := vz_nn v
          have hv1 := vz_lt v
          refine z_istore X [(6, .int (iZ (vz v))), (5, .int (iZ (j))), (4, .int (iZ (i))), (0, .ref (ad 0)), (1, .int (iZ (a0))), (2, .int (iZ (b0))), (3, .ref (ad (q + 3)))] rfl (by decide) dX3_load_37 ?_
          refine z_iload X 0 rfl dX3_load_39 ?_
          refine z_if_eq X (tgt := 57) (by omega) dX3_load_41 (by decide) (fun hb41 => ?_) (fun hb41 => ?_)
          · refine z_iinc X [(5, .int (iZ (j + 1))), (6, .int (iZ (vz v))), (4, .int (iZ (i))), (0, .ref (ad 0)), (1, .int (iZ (a0))), (2, .int (iZ (b0))), (3, .ref (ad (q + 3)))] 1 rfl rfl (by decide) dX3_load_57 ?_
            refine z_goto X (tgt := 17) dX3_load_60 (by decide) ?_
            have hvz : v = 0 := vz_z.mp hb41
            refine ih2 (j + 1) P2 S2 _ [0, 2, 3, 4, 5, 6] (by omega) (by omega) g3 g4 ?_ rfl
            rw [g5, show (j + 1).toNat = j.toNat + 1 by omega, pq_lo_s HU, ← hv, hvz, mp_m_0 HU]
            clear ih ih2
            grind
          · refine z_aload_n X 6 rfl rfl dX3_load_44 ?_
            refine z_iload X 2 rfl dX3_load_45 ?_
            refine z_callVr X zm_X2_row zw113 zw114 zw112 (zFit_of (by decide) (by decide)) [.int (iZ (i))] (c_X2_row l S2 (q := q) (by omega) (i := i) (by omega)) rfl rfl (Nat.le_of_ble_eq_true rfl) (by omega) (gC_P (by omega)) (q := vwCl[4]) rfl rfl dX3_load_47 (fun j _ hz => ?_)
            have hj := zr_row hz (by omega) (by omega)
            subst hj
            refine z_iload X 1 rfl dX3_load_50 ?_
            refine z_iload X 0 rfl dX3_load_52 ?_
            refine z_callVv X zm_X1_put zw117 zw118 zw116 (zFit_of (by decide) (by decide)) [.int (iZ (j)), .int (iZ (vz v))] (c_X1_put HU l g3 (k := 13 * q + (i).toNat) (by omega) (i := j) (by omega) (by omega) v) rfl rfl (Nat.le_of_ble_eq_true rfl) (by omega) (gC_L (by omega)) (q := vwCl[3]) rfl rfl dX3_load_54 (fun S3 R3 => ?_)
            refine z_iinc X [(5, .int (iZ (j + 1))), (6, .int (iZ (vz v))), (4, .int (iZ (i))), (0, .ref (ad 0)), (1, .int (iZ (a0))), (2, .int (iZ (b0))), (3, .ref (ad (q + 3)))] 1 rfl rfl (by decide) dX3_load_57 ?_
            refine z_goto X (tgt := 17) dX3_load_60 (by decide) ?_
            refine ih2 (j + 1) _ S3 _ [0, 2, 3, 4, 5, 6] (by omega) (by omega) R3 (fun k hk => by rw [va_up_ne _ _ hk]; exact g4 k hk) ?_ rfl
            rw [va_up_self, g5, show (j + 1).toNat = j.toNat + 1 by omega]
            refine mp_ext HU (fun k => ?_)
            rw [pu_cf HU, pq_lo_cf HU, pq_lo_cf HU, hv]
            by_cases e1 : k = j.toNat
            · rw [if_pos e1, if_pos (by omega), e1]
            · rw [if_neg e1]
              by_cases e2 : k < j.toNat
              · rw [if_pos e2, if_pos (by omega)]
              · rw [if_neg e2, if_neg (by omega)]
      exact inner 7 0 P1 S1 _ [0, 1, 2, 3, 4, 5] (by omega) (by omega) h3 (fun _ _ => rfl) (by rw [h5 _ (by omega), if_neg (by omega), show (0 : Int).toNat = 0 from rfl, pq_lo_0 HU]) rfl
  refine z_aload_n X 3 rfl rfl dX3_load_0 ?_
  refine z_callVv X zm_X2_clear zw286 zw287 zw285 (zFit_of (by decide) (by decide)) [] (c_X2_clear HU l hR (q := q) (by omega)) rfl rfl (Nat.le_of_ble_eq_true rfl) (by omega) (gC_P (by omega)) (q := vwCl[4]) rfl rfl dX3_load_1 (fun S1 R1 => ?_)
  refine z_iconst X (n := 0) dX3_load_4 ?_
  refine z_istore X [(4, .int (iZ (0))), (0, .ref (ad 0)), (1, .int (iZ (a0))), (2, .int (iZ (b0))), (3, .ref (ad (q + 3)))] rfl (by decide) dX3_load_5 ?_
  exact loop 7 0 _ S1 _ [0, 1, 2, 3, 4] (by omega) (by omega) R1 (fun j hj => pwn_out P q _ hj) (fun r hr => by rw [pwn_in P q _ hr, if_neg (by omega)]) rfl
set_option maxHeartbeats 8000000 in
set_option maxRecDepth 100000 in
theorem c_X3_isTooGreat {U V : Type} [Lean.Grind.CommRing U] [Lean.Grind.CommRing V] {cu : U → Nat → FP} {ca : V → Nat → U} (HU : mp_P cu) (HA : mp_P ca) (l : Launch) {D : va_G} {ad : Nat → Nat} {cI cO : ClassId} {P : Nat → U} {T : zRest} {S : zS} (hR : zR cu P T S) {q : Nat} (hq : q < 14) {a : V} (hv : zV ca P q a) : zMi l yX3_isTooGreat cX3_isTooGreat 1 (some .boolean) 2 D (zTy cI cO) 419 ad [.ref (ad (q + 3))] (gC ad cI cO S) (fun _ : Unit => gC ad cI cO S) (fun z _ => (z = 0 ∧ mp_sz ca a ≤ 7 ∧ mp_xz cu ca a ≤ 7) ∨ (z = 1 ∧ ¬ (mp_sz ca a ≤ 7 ∧ mp_xz cu ca a ≤ 7))) := by
  have hs := hv.2
  have hx := pA_xz HU HA hR hq hv
  refine z_goz zm_X3_isTooGreat (Nat.le_of_ble_eq_true rfl) [(0, .ref (ad (q + 3)))] rfl (fun p e s m args below meth c A Q X E => ?_)
  refine z_aload_n X 0 rfl rfl dX3_isTooGreat_0 ?_
  refine z_callVi X zm_X2_powerT zw414 zw415 zw567 (zFit_of (by decide) (by decide)) [] (c_X2_powerT HU HA l hR hq hv) rfl rfl (Nat.le_of_ble_eq_true rfl) (by omega) (gC_P (by omega)) (q := vwCl[4]) rfl rfl dX3_isTooGreat_1 (fun z _ hz => ?_)
  subst hz
  refine z_bipush X (n := 6) (by decide) dX3_isTooGreat_4 ?_
  refine z_icmp_gt X (tgt := 18) (by omega) (by omega) dX3_isTooGreat_6 (by decide) (fun hb6 => ?_) (fun hb6 => ?_)
  · refine z_iconst X (n := 1) dX3_isTooGreat_18 ?_
    refine z_goto X (tgt := 23) dX3_isTooGreat_19 (by decide) ?_
    exact E () (by omega) (by omega) rfl dX3_isTooGreat_23
  · refine z_aload_n X 0 rfl rfl dX3_isTooGreat_9 ?_
    refine z_callVi X zm_X2_powerX zw467 zw468 zw568 (zFit_of (by decide) (by decide)) [] (c_X2_powerX HU HA l hR hq hv) rfl rfl (Nat.le_of_ble_eq_true rfl) (by omega) (gC_P (by omega)) (q := vwCl[4]) rfl rfl dX3_isTooGreat_10 (fun z _ hz => ?_)
    subst hz
    refine z_bipush X (n := 6) (by decide) dX3_isTooGreat_13 ?_
    refine z_icmp_le X (tgt := 22) (by omega) (by omega) dX3_isTooGreat_15 (by decide) (fun hb15 => ?_) (fun hb15 => ?_)
    · refine z_iconst X (n := 0) dX3_isTooGreat_22 ?_
      exact E () (by omega) (by omega) rfl dX3_isTooGreat_23
    · refine z_iconst X (n := 1) dX3_isTooGreat_18 ?_
      refine z_goto X (tgt := 23) dX3_isTooGreat_19 (by decide) ?_
      exact E () (by omega) (by omega) rfl dX3_isTooGreat_23
set_option maxHeartbeats 8000000 in
set_option maxRecDepth 100000 in
/-- the element kept -/
theorem c_X3_keep {U V : Type} [Lean.Grind.CommRing U] [Lean.Grind.CommRing V] {cu : U → Nat → FP} {ca : V → Nat → U} (HU : mp_P cu) (HA : mp_P ca) (l : Launch) {D : va_G} {ad : Nat → Nat} {cI cO : ClassId} {P : Nat → U} {T : zRest} {S : zS} (hR : zR cu P T S) {q1 q2 : Nat} (hq1 : q1 < 14) (hq2 : q2 < 14) {a b : V} (hva : zV ca P q1 a) (hvb : zV ca P q2 b) (ha7 : mp_sz ca a ≤ 7 ∧ mp_xz cu ca a ≤ 7) (hb7 : mp_sz ca b ≤ 7 ∧ mp_xz cu ca b ≤ 7) (hm0 : 0 ≤ T.2.1) (hm1 : T.2.1 < 120) : zMi l yX3_keep cX3_keep 5 (some .int) 1 D (zTy cI cO) 419 ad [.ref (ad 0), .ref (ad (q1 + 3)), .ref (ad (q2 + 3))] (gC ad cI cO S) (gC ad cI cO) (fun z u => z = T.2.1 ∧ ∃ f1 : Nat → FP, zR cu P (f1, T.2.1 + 1, T.2.2) u ∧ (∀ z : Nat, z < 98 * T.2.1 → f1 z = T.1 z) ∧ zB cu ca f1 (98 * T.2.1).toNat a ∧ zB cu ca f1 ((98 * T.2.1).toNat + 49) b) := by
  obtain ⟨f0, md0, kd⟩ := T
  have hm2 : 0 ≤ md0 := hm0
  have hm3 : md0 < 120 := hm1
  refine z_goi zm_X3_keep (Nat.le_of_ble_eq_true rfl) [(0, .ref (ad 0)), (1, .ref (ad (q1 + 3))), (2, .ref (ad (q2 + 3)))] rfl (fun p e s m args below meth c A Q X E => ?_)
  have loop : ∀ (n : Nat) (i : Int) (f1 : Nat → FP) (S1 : zS) (lv : List (Nat × Value)) (ks : List Nat), i + n = 7 → 0 ≤ i → zR cu P (f1, md0, kd) S1 → (∀ z : Nat, z < 98 * md0 → f1 z = f0 z) → (∀ i1 j1 : Nat, (i1 < i) → j1 < 7 → f1 ((98 * md0).toNat + 7 * i1 + j1) = cu (ca a i1) j1 ∧ f1 ((98 * md0).toNat + 49 + 7 * i1 + j1) = cu (ca b i1) j1) → lv_pick lv ks = [(3, .int (iZ (i))), (0, .ref (ad 0)), (1, .ref (ad (q1 + 3))), (2, .ref (ad (q2 + 3)))] → Z p l e (zRm 1) s m args below meth c 5 D 419 ad A 0 0 Q 2 lv [] (gC ad cI cO S1) := by
    intro n
    induction n with
    | zero =>
      intro i f1 S1 lv ks h1 h2 h3 h4 h5 hlv
      refine z_sub ks hlv ?_
      refine z_iload_n X 0 rfl rfl dX3_keep_2 ?_
      refine z_bipush X (n := 7) (by decide) dX3_keep_3 ?_
      refine z_icmp_ge X (tgt := 80) (by omega) (by omega) dX3_keep_5 (by decide) (fun hb5 => ?_) (fun hb5 => absurd hb5 (by omega))
      refine z_aload_n X 1 rfl rfl dX3_keep_80 ?_
      refine z_dup X rfl dX3_keep_81 ?_
      refine z_get X zinX3 0 (by omega) gC_T (ci := 5) rfl 1 (by decide) (ref := "TowerFields") zw121 rfl rfl dX3_keep_82 ?_
      refine z_eqi (b := md0) (by rw [h3.2.2.2.2.2]) ?_
      refine z_iconst X (n := 1) dX3_keep_85 ?_
      refine z_iadd X dX3_keep_86 ?_
      refine zt_pmade X dX3_keep_87 ?_
      have R9 := zR_um h3 (md0 + 1)
      refine z_aload_n X 1 rfl rfl dX3_keep_90 ?_
      refine z_get X zinX3 0 (by omega) gC_T (ci := 5) rfl 1 (by decide) (ref := "TowerFields") zw121 rfl rfl dX3_keep_91 ?_
      refine z_eqi (b := md0 + 1) rfl ?_
      refine z_iconst X (n := 1) dX3_keep_94 ?_
      refine z_isub X dX3_keep_95 ?_
      refine E _ ?_ rfl dX3_keep_96
      exact ⟨by show _ = md0; omega, f1, R9, h4, ⟨fun i j hi hj => (h5 i j (by omega) hj).1, ha7⟩, ⟨fun i j hi hj => (h5 i j (by omega) hj).2, hb7⟩⟩
    | succ n ih =>
      intro i f1 S1 lv ks h1 h2 h3 h4 h5 hlv
      refine z_sub ks hlv ?_
      refine z_iload_n X 0 rfl rfl dX3_keep_2 ?_
      refine z_bipush X (n := 7) (by decide) dX3_keep_3 ?_
      refine z_icmp_ge X (tgt := 80) (by omega) (by omega) dX3_keep_5 (by decide) (fun hb5 => absurd hb5 (by omega)) (fun hb5 => ?_)
      refine z_iconst X (n := 0) dX3_keep_8 ?_
      refine z_istore X [(4, .int (iZ (0))), (3, .int (iZ (i))), (0, .ref (ad 0)), (1, .ref (ad (q1 + 3))), (2, .ref (ad (q2 + 3)))] rfl (by decide) dX3_keep_9 ?_
      have inner : ∀ (n2 : Nat) (j : Int) (f1 : Nat → FP) (S2 : zS) (lv : List (Nat × Value)) (ks : List Nat), j + n2 = 7 → 0 ≤ j → zR cu P (f1, md0, kd) S2 → (∀ z : Nat, z < 98 * md0 → f1 z = f0 z) → (∀ i1 j1 : Nat, (((i1 : Int) < i ∨ ((i1 : Int) = i ∧ (j1 : Int) < j))) → j1 < 7 → f1 ((98 * md0).toNat + 7 * i1 + j1) = cu (ca a i1) j1 ∧ f1 ((98 * md0).toNat + 49 + 7 * i1 + j1) = cu (ca b i1) j1) → lv_pick lv ks = [(4, .int (iZ (j))), (3, .int (iZ (i))), (0, .ref (ad 0)), (1, .ref (ad (q1 + 3))), (2, .ref (ad (q2 + 3)))] → Z p l e (zRm 1) s m args below meth c 5 D 419 ad A 0 0 Q 11 lv [] (gC ad cI cO S2) := by
        intro n2
        induction n2 with
        | zero =>
          intro j f1 S2 lv ks g1 g2 g3 g4 g5 hlv2
          refine z_sub ks hlv2 ?_
          refine z_iload X 0 rfl dX3_keep_11 ?_
          refine z_bipush X (n := 7) (by decide) dX3_keep_13 ?_
          refine z_icmp_ge X (tgt := 74) (by omega) (by omega) dX3_keep_15 (by decide) (fun hb15 => ?_) (fun hb15 => absurd hb15 (by omega))
          refine z_iinc X [(3, .int (iZ (i + 1))), (4, .int (iZ (j))), (0, .ref (ad 0)), (1, .ref (ad (q1 + 3))), (2, .ref (ad (q2 + 3)))] 1 rfl rfl (by decide) dX3_keep_74 ?_
          refine z_goto X (tgt := 2) dX3_keep_77 (by decide) ?_
          exact ih (i + 1) f1 S2 _ [0, 2, 3, 4] (by omega) (by omega) g3 g4 (fun i1 j1 q1 q2 => g5 i1 j1 (by omega) q2) rfl
        | succ n2 ih2 =>
          intro j f1 S2 lv ks g1 g2 g3 g4 g5 hlv2
          refine z_sub ks hlv2 ?_
          refine z_iload X 0 rfl dX3_keep_11 ?_
          refine z_bipush X (n := 7) (by decide) dX3_keep_13 ?_
          refine z_icmp_ge X (tgt := 74) (by omega) (by omega) dX3_keep_15 (by decide) (fun hb15 => absurd hb15 (by omega)) (fun hb15 => ?_)
          refine z_aload_n X 2 rfl rfl dX3_keep_18 ?_
          refine z_aload_n X 2 rfl rfl dX3_keep_19 ?_
          refine z_get X zinX3 0 (by omega) gC_T (ci := 5) rfl 1 (by decide) (ref := "TowerFields") zw121 rfl rfl dX3_keep_20 ?_
          refine z_eqi (b := md0) (by rw [g3.2.2.2.2.2]) ?_
          refine z_iconst X (n := 0) dX3_keep_23 ?_
          refine z_iload_n X 1 rfl rfl dX3_keep_24 ?_
          refine z_iload X 0 rfl dX3_keep_25 ?_
          refine z_callSi X zm_X3_place zw298 zw297 (zFit_of (by decide) (by decide)) [.int (iZ (md0)), .int (iZ (0)), .int (iZ (i)), .int (iZ (j))] (c_X3_place l (gC ad cI cO S2) md0 0 i j) rfl rfl (Nat.le_of_ble_eq_true rfl) dX3_keep_27 (fun z _ hz => ?_)
          subst hz
          refine z_aload_n X 3 rfl rfl dX3_keep_30 ?_
          refine z_iload_n X 1 rfl rfl dX3_keep_31 ?_
          refine z_callVr X zm_X2_row zw113 zw114 zw112 (zFit_of (by decide) (by decide)) [.int (iZ (i))] (c_X2_row l S2 (q := q1) (by omega) (i := i) (by omega)) rfl rfl (Nat.le_of_ble_eq_true rfl) (by omega) (gC_P (by omega)) (q := vwCl[4]) rfl rfl dX3_keep_32 (fun j _ hz => ?_)
          have hj := zr_row hz (by omega) (by omega)
          subst hj
          refine z_iload X 0 rfl dX3_keep_35 ?_
          refine z_callVi X zm_X1_get zw301 zw302 zw300 (zFit_of (by decide) (by decide)) [.int (iZ (j))] (c_X1_getn HU l g3 (k := 13 * q1 + (i).toNat) (by omega) (i := j) (by omega) (by omega)) rfl rfl (Nat.le_of_ble_eq_true rfl) (by omega) (gC_L (by omega)) (q := vwCl[3]) rfl rfl dX3_keep_37 (fun z _ hz => ?_)
          rw [hva.1 _ (by omega)] at hz
          subst hz
          refine z_callVv X zm_X3_store zw306 zp4 zw304 (zFit_of (by decide) (by decide)) [.int (iZ (98 * md0 + 49 * 0 + 7 * i + j)), .int (iZ (vz (cu (ca a i.toNat) j.toNat)))] (c_X3_store l S2 (z := 98 * md0 + 49 * 0 + 7 * i + j) (by omega) (by omega) (cu (ca a i.toNat) j.toNat)) rfl rfl (Nat.le_of_ble_eq_true rfl) (by omega) gC_T (q := vwCl[5]) rfl rfl dX3_keep_40 (fun u hu => ?_)
          subst hu
          have R3 := zR_un g3 (va_up S2.2.2.2.1 (98 * md0 + 49 * 0 + 7 * i + j).toNat (cu (ca a i.toNat) j.toNat))
          refine zs_nm (fun S3 hS3 => ?_)
          rw [← hS3] at R3
          refine z_aload_n X 2 rfl rfl dX3_keep_43 ?_
          refine z_aload_n X 2 rfl rfl dX3_keep_44 ?_
          refine z_get X zinX3 0 (by omega) gC_T (ci := 5) rfl 1 (by decide) (ref := "TowerFields") zw121 rfl rfl dX3_keep_45 ?_
          refine z_eqi (b := md0) (by rw [R3.2.2.2.2.2]) ?_
          refine z_iconst X (n := 1) dX3_keep_48 ?_
          refine z_iload_n X 1 rfl rfl dX3_keep_49 ?_
          refine z_iload X 0 rfl dX3_keep_50 ?_
          refine z_callSi X zm_X3_place zw298 zw297 (zFit_of (by decide) (by decide)) [.int (iZ (md0)), .int (iZ (1)), .int (iZ (i)), .int (iZ (j))] (c_X3_place l (gC ad cI cO S3) md0 1 i j) rfl rfl (Nat.le_of_ble_eq_true rfl) dX3_keep_52 (fun z _ hz => ?_)
          subst hz
          refine z_aload_n X 4 rfl rfl dX3_keep_55 ?_
          refine z_iload_n X 1 rfl rfl dX3_keep_56 ?_
          refine z_callVr X zm_X2_row zw113 zw114 zw112 (zFit_of (by decide) (by decide)) [.int (iZ (i))] (c_X2_row l S3 (q := q2) (by omega) (i := i) (by omega)) rfl rfl (Nat.le_of_ble_eq_true rfl) (by omega) (gC_P (by omega)) (q := vwCl[4]) rfl rfl dX3_keep_57 (fun j _ hz => ?_)
          have hj := zr_row hz (by omega) (by omega)
          subst hj
          refine z_iload X 0 rfl dX3_keep_60 ?_
          refine z_callVi X zm_X1_get zw301 zw302 zw300 (zFit_of (by decide) (by decide)) [.int (iZ (j))] (c_X1_getn HU l R3 (k := 13 * q2 + (i).toNat) (by omega) (i := j) (by omega) (by omega)) rfl rfl (Nat.le_of_ble_eq_true rfl) (by omega) (gC_L (by omega)) (q := vwCl[3]) rfl rfl dX3_keep_62 (fun z _ hz => ?_)
          rw [hvb.1 _ (by omega)] at hz
          subst hz
          refine z_callVv X zm_X3_store zw306 zp4 zw304 (zFit_of (by decide) (by decide)) [.int (iZ (98 * md0 + 49 * 1 + 7 * i + j)), .int (iZ (vz (cu (ca b i.toNat) j.toNat)))] (c_X3_store l S3 (z := 98 * md0 + 49 * 1 + 7 * i + j) (by omega) (by omega) (cu (ca b i.toNat) j.toNat)) rfl rfl (Nat.le_of_ble_eq_true rfl) (by omega) gC_T (q := vwCl[5]) rfl rfl dX3_keep_65 (fun u hu => ?_)
          subst hu
          have R4 := zR_un R3 (va_up S3.2.2.2.1 (98 * md0 + 49 * 1 + 7 * i + j).toNat (cu (ca b i.toNat) j.toNat))
          refine zs_nm (fun S4 hS4 => ?_)
          rw [← hS4] at R4
          refine z_iinc X [(4, .int (iZ (j + 1))), (3, .int (iZ (i))), (0, .ref (ad 0)), (1, .ref (ad (q1 + 3))), (2, .ref (ad (q2 + 3)))] 0 rfl rfl (by decide) dX3_keep_68 ?_
          refine z_goto X (tgt := 11) dX3_keep_71 (by decide) ?_
          have e2 : S2.2.2.2.1 = f1 := by rw [g3.2.2.2.2.2]
          have e3 : S3.2.2.2.1 = va_up f1 (98 * md0 + 49 * 0 + 7 * i + j).toNat (cu (ca a i.toNat) j.toNat) := by rw [R3.2.2.2.2.2, e2]
          rw [e3] at R4
          refine ih2 (j + 1) _ S4 _ [0, 1, 2, 3, 4] (by omega) (by omega) R4 (fun z hz => by rw [va_up_ne _ _ (by omega), va_up_ne _ _ (by omega)]; exact g4 z hz) (fun i1 j1 q1 q2 => ?_) rfl
          by_cases e1 : i1 = i.toNat ∧ j1 = j.toNat
          · rw [e1.1, e1.2]
            refine ⟨?_, ?_⟩
            · rw [va_up_ne _ _ (by omega), show (98 * md0).toNat + 7 * i.toNat + j.toNat = (98 * md0 + 49 * 0 + 7 * i + j).toNat by omega, va_up_self]
            · rw [show (98 * md0).toNat + 49 + 7 * i.toNat + j.toNat = (98 * md0 + 49 * 1 + 7 * i + j).toNat by omega, va_up_self]
          · have h7 : ¬ i1 = i.toNat ∨ ¬ j1 = j.toNat := by omega
            rw [va_up_ne _ _ (by omega), va_up_ne _ _ (by omega), va_up_ne _ _ (by omega), va_up_ne _ _ (by omega)]
            exact g5 i1 j1 (by omega) q2
      exact inner 7 0 f1 S1 _ [0, 1, 2, 3, 4] (by omega) (by omega) h3 h4 (fun i1 j1 q1 q2 => h5 i1 j1 (by omega) q2) rfl
  refine z_iconst X (n := 0) dX3_keep_0 ?_
  refine z_istore_n X [(3, .int (iZ (0))), (0, .ref (ad 0)), (1, .ref (ad (q1 + 3))), (2, .ref (ad (q2 + 3)))] rfl rfl (by decide) dX3_keep_1 ?_
  exact loop 7 0 f0 S _ [0, 1, 2, 3] (by omega) (by omega) hR (fun _ _ => rfl) (fun i1 j1 q1 q2 => absurd q1 (by omega)) rfl
