/-! constructors: the class, in its own order; the reference; where they start -/
def pP (q : Nat) : Nat := if q < 9 then 28 * q + 6 else 258 + (28 * (q - 9) + 1)
def pL (k : Nat) : Nat := if k < 182 then pP (k / 13) + (2 * (k % 13) + 2) else if k < 184 then 2 * (k - 182) + 2 else 258 + (2 * (k - 184) + 141)
def zpi (k : Nat) : Nat := if k = 0 then 0 else if k = 1 then 1 else if k = 2 then 258 else if k < 17 then pP (k - 3) else if k < 31 then pP (k - 17) + 1 else if k < 225 then pL (k - 31) else pL (k - 225) + 1
def zrhoP (b q x : Nat) : Nat := if x = 0 then q + 3 else if x = 1 then q + 17 else 13 * q + (x - 2) / 2 + (if (x - 2) % 2 = 0 then 31 else 225) + 0 * b
def zrhoL (k x : Nat) : Nat := k + (if x % 2 = 0 then 31 else 225)
def zrho (x : Nat) : Nat := if x = 0 then 0 else if x = 1 then 1 else if x < 6 then zrhoL (182 + (x - 2) / 2) x else if x < 258 then zrhoP 0 ((x - 6) / 28) ((x - 6) % 28) else if x = 258 then 2 else if x < 399 then zrhoP 0 (9 + (x - 259) / 28) ((x - 259) % 28) else zrhoL (184 + (x - 399) / 2) (x - 399)
theorem zpi_lt : ∀ k, k < 419 → zpi k < 419 := by decide +kernel
theorem zrho_pi : ∀ k, k < 419 → zrho (zpi k) = k := by decide +kernel
def zS0 : zS := (fun k => k, fun _ _ => 0, fun _ => -1, fun _ => 0, 0, 0)
section
variable {cI cO : ClassId} {a : Nat → Nat} {q k i j : Nat}
theorem zpi_P (h : q < 14) : zpi (q + 3) = pP q := by rw [zpi, if_neg (by omega), if_neg (by omega), if_neg (by omega), if_pos (by omega), Nat.add_sub_cancel]
theorem zpi_W (h : q < 14) : zpi (q + 17) = pP q + 1 := by rw [zpi, if_neg (by omega), if_neg (by omega), if_neg (by omega), if_neg (by omega), if_pos (by omega), Nat.add_sub_cancel]
theorem zpi_L (h : k < 194) : zpi (k + 31) = pL k := by rw [zpi, if_neg (by omega), if_neg (by omega), if_neg (by omega), if_neg (by omega), if_neg (by omega), if_pos (by omega), Nat.add_sub_cancel]
theorem zpi_A : zpi (k + 225) = pL k + 1 := by rw [zpi, if_neg (by omega), if_neg (by omega), if_neg (by omega), if_neg (by omega), if_neg (by omega), if_neg (by omega), Nat.add_sub_cancel]
theorem pL_P (h : q < 14) (hi : i < 13) : pL (13 * q + i) = pP q + (2 * i + 2) := by rw [pL, if_pos (by omega), show (13 * q + i) / 13 = q by omega, show (13 * q + i) % 13 = i by omega]
theorem lT_Q (hq : q < 14) (hj : j < 28) : lT cI cO 15 a (pP q + j) = bQ cI cO 13 (fun t => a (pP q + t)) j := by
  by_cases h : q < 9
  · rw [pP, if_pos h, lT_P h hj]
  · rw [pP, if_neg h, Nat.add_assoc, lT_D, lD_P (by omega) hj]
    simp only [Nat.add_assoc]
theorem lT_Lk (hk : k < 194) (hj : j < 2) : lT cI cO 15 a (pL k + j) = bL cI (fun t => a (pL k + t)) j := by
  by_cases h : k < 182
  · have e : k = 13 * (k / 13) + k % 13 := by omega
    rw [e, pL_P (by omega) (by omega), Nat.add_assoc, lT_Q (by omega) (by omega), bQ_l hj]
    simp only [Nat.add_assoc]
  · by_cases h1 : k < 184
    · rw [pL, if_neg h, if_pos h1, lT_L (by omega) hj]
    · rw [pL, if_neg h, if_neg h1, Nat.add_assoc, lT_D, lD_L hj]
      simp only [Nat.add_assoc]
theorem gC_pi (hk : k < 419) : gC (fun i => a (zpi i)) cI cO zS0 k = lT cI cO 15 a (zpi k) := by
  rcases gC_cases k with rfl | rfl | rfl | ⟨q, hq, rfl⟩ | ⟨q, hq, rfl⟩ | ⟨q, hq, rfl⟩ | ⟨b, rfl⟩
  · rw [gC_T, show zpi 0 = 0 from rfl, lT_0]
    rfl
  · rw [gC_N, show zpi 1 = 1 from rfl, lT_1]
    rfl
  · rw [gC_D, show zpi 2 = 258 + 0 from rfl, lT_D, lD_0]
    rfl
  · rw [gC_P hq, zpi_P hq, zpi_W hq, ← Nat.add_zero (pP q), lT_Q hq (by omega), bQ_0]
  · rw [gC_W hq, zpi_W hq, lT_Q hq (by omega), bQ_1]
    congr 7
    funext i
    by_cases hi : i < 13
    · rw [if_pos hi, if_pos hi, zpi_L (by omega), pL_P hq hi]
    · rw [if_neg hi, if_neg hi]
  · rw [gC_L hq, zpi_L hq, ← Nat.add_zero (pL q), lT_Lk hq (by omega)]
    show (Sum.inr (3, [Value.ref (a (zpi (q + 225))), Value.int (iZ (-1))]) : va_E) = _
    rw [zpi_A]
    rfl
  · rw [gC_A, zpi_A, lT_Lk (by omega) (by omega)]
    rfl
theorem lT_stepI {n : Nat} (h : n = 1 ∨ n = 2) (k : Nat) : lT cI cO (n + 1) a k = va_up (lT cI cO n a) 0 (.inr (5, (fX vT dT n 15 a).set n (.int (iZ 0)))) k := by
  by_cases k0 : k = 0
  · rw [k0, va_up_self, lT_0, fX_step (fun _ _ => rfl) (show vT a n = .int (iZ 0) by rw [vT, if_neg (by omega), if_pos (by omega)])]
  · rw [va_up_ne _ _ k0, lT, lT, if_neg k0, if_neg k0]
end
/-- a constructor's contract speaks of fewer arrays than are known -/
theorem zMc_tys {S : Type} {l : Launch} {y : MethodName} {cc : ByteArray} {maxL lev k n : Nat} {D : va_G} {tys tys9 : List (ClassId × FieldType)} {blank : va_E} {M : Nat} {gch : S → (Nat → Nat) → Nat → va_E} {post : S → Prop} (h : zMc l y cc maxL lev k n D tys9 blank M gch post) (hs : ∀ (i : Nat) (q : ClassId × FieldType), tys9[i]? = some q → tys[i]? = some q) : zMc l y cc maxL lev k n D tys blank M gch post := by
  intro sz q p e ha hc hk s m args below hf happ hp hk9
  exact h sz q p e ha hc hk s m args below hf happ ⟨hp.1, hp.2.1, ⟨⟨⟨hp.2.2.1.1.1.1, fun i q hq => hp.2.2.1.1.1.2 i q (hs i q hq)⟩, hp.2.2.1.1.2⟩, hp.2.2.1.2⟩, hp.2.2.2⟩ hk9
theorem z_start0 {U V : Type} [Lean.Grind.CommRing U] [Lean.Grind.CommRing V] {cu : U → Nat → FP} {ca : V → Nat → U} (HU : mp_P cu) (HA : mp_P ca) {u : zS} (h : zR cu (va_up (va_up (fun _ => 0) 104 (pu cu 0 (0 : Int).toNat 1)) 183 (pu cu 0 (0 : Int).toNat 1)) (fun _ => 0, 0, 0) u) (EL : Int → V × V) : zC cu ca EL 0 0 0 1 u := by
  have e1 : pu cu 0 (0 : Int).toNat 1 = 1 := mp_ext HU (fun j => by
    rw [pu_cf HU, mp_one HU, mp_zero HU]
    rfl)
  rw [e1] at h
  refine ⟨_, _, h, ⟨by show (0 : Int) ≤ 0; omega, by show (0 : Int) ≤ 120; omega, fun n h1 h2 => ?_⟩, rfl, rfl, ?_, va_up_self _ _ _, ⟨fun i hi => ?_, ?_⟩, fun n h1 h2 => by omega, ?_, ?_, by omega⟩
  · exact absurd (show n < 0 from h2) (by omega)
  · rw [va_up_ne _ _ (by omega), va_up_ne _ _ (by omega)]
  · rw [va_up_ne _ _ (by omega), mp_one HA]
    by_cases e : i = 0
    · rw [e, if_pos rfl]
      exact va_up_self _ _ _
    · rw [if_neg e, va_up_ne _ _ (by omega)]
  · exact mp_sz_le HA (fun n hn => by rw [mp_one HA, if_neg (by omega)])
  · exact mp_sz_le HU (fun n _ => mp_zero HU n)
  · exact mp_sz_le HU (fun n hn => by rw [mp_one HU, if_neg (by omega)])
theorem c_X3_init {U V : Type} [Lean.Grind.CommRing U] [Lean.Grind.CommRing V] {cu : U → Nat → FP} {ca : V → Nat → U} (HU : mp_P cu) (HA : mp_P ca) (l : Launch) {D : va_G} {cI cO : ClassId} : zMc l yX3_init cX3_init 1 4 418 22447 D (zTy cI cO) (.inr (5, [.null, .int 0, .int 0, .null, .null, .null, .null, .null, .null, .null, .null, .null, .null, .null, .null])) 419 (fun (S : zS) ad => gC ad cI cO S) (fun S => ∀ EL : Int → V × V, zC cu ca EL 0 0 0 1 S) := by
  refine z_goc zm_X3_init rfl (by decide) ?_
  intro p e s m args below meth c A q Q X hnm hO fin
  refine z_aload_n X 0 rfl rfl dX3_init_0 ?_
  refine z_objinit X zw21 (by decide) dX3_init_1 ?_
  refine z_cong9 (N9 := 1) (cells9 := 0) (slots9 := 0) (ad9 := fun _ => q) (g9 := lT cI cO 0 (fun _ => q)) rfl rfl rfl (fun _ _ => rfl) (fun k hk => by rw [show k = 0 by omega]; rfl) ?_
  have h0 : (fun _ : Nat => q) 0 = q := rfl
  generalize (fun _ : Nat => q) = ad0 at X h0 ⊢
  have X0 := X
  clear X
  refine z_aload_n X0 0 rfl rfl dX3_init_4 ?_
  refine z_sipush X0 (n := 11760) (by decide) dX3_init_5 ?_
  refine z_mkI X0 hnm (C := RX3) (T := TX3) (NF := 15) (ci := 5) zinX3 tyX3 tyX3_ok nmX3 rfl (fs := fX vT dT 0 15 ad0) 0 (by decide) (ref := "TowerFields") zw120 rfl rfl rfl (ty := .array .int) (by decide +kernel) (fun _ => rfl) (fun _ => rfl) (by omega) lT_0 (by rw [fX_len]; decide) h0 0 rfl (n := 11760) (n9 := 11760) (by omega) (by omega) rfl (by decide) (by decide) (by decide) dX3_init_8 dX3_init_10 (fun ad1 h9 Xn => ?_)
  replace h0 : ad1 0 = q := (h9 0 (by omega)).trans h0
  have X1 : zCx p s m args meth c cX3_init 1 RX3 none D (zTy cI cO) 2 ad1 A := Xn
  refine z_cong9 (N9 := 2) (cells9 := 1) (slots9 := 11760) (ad9 := ad1) (g9 := lT cI cO 1 ad1) rfl rfl rfl (fun _ _ => rfl) (fun k hk => lT_stepN k hk) ?_
  clear h9 Xn X0
  refine z_aload_n X1 0 rfl rfl dX3_init_13 ?_
  refine z_iconst X1 (n := 0) dX3_init_14 ?_
  refine z_stq (st9 := [.int (iZ 0), .ref (ad1 0)]) (by rw [h0]) ?_
  refine z_put X1 zinX3 tyX3 tyX3_ok nmX3 0 (by omega) lT_0 (ci := 5) rfl 1 (by decide) (ref := "TowerFields") zw121 rfl rfl (ty := .int) (by decide +kernel) rfl rfl (by rw [fX_len]; decide) dX3_init_15 ?_
  refine z_cong9 (N9 := 2) (cells9 := 1) (slots9 := 11760) (ad9 := ad1) (g9 := lT cI cO 2 ad1) rfl rfl rfl (fun _ _ => rfl) (fun k hk => lT_stepI (by omega) k) ?_
  refine z_aload_n X1 0 rfl rfl dX3_init_18 ?_
  refine z_iconst X1 (n := 0) dX3_init_19 ?_
  refine z_stq (st9 := [.int (iZ 0), .ref (ad1 0)]) (by rw [h0]) ?_
  refine z_put X1 zinX3 tyX3 tyX3_ok nmX3 0 (by omega) lT_0 (ci := 5) rfl 2 (by decide) (ref := "TowerFields") zw122 rfl rfl (ty := .int) (by decide +kernel) rfl rfl (by rw [fX_len]; decide) dX3_init_20 ?_
  refine z_cong9 (N9 := 2) (cells9 := 1) (slots9 := 11760) (ad9 := ad1) (g9 := lT cI cO 3 ad1) rfl rfl rfl (fun _ _ => rfl) (fun k hk => lT_stepI (by omega) k) ?_
  refine z_aload_n X1 0 rfl rfl dX3_init_23 ?_
  refine z_mkN (host := "TowerFields") X1 hnm hO (C := RX3) (T := TX3) (NF := 15) (ci := 5) zinX3 tyX3 tyX3_ok nmX3 rfl (fs := fX vT dT 3 15 ad1) 3 (by decide) (ref := "TowerFields") zw123 rfl rfl rfl (ty := .object "TowerFields$Line") (by decide +kernel) (fun _ => rfl) (fun _ => rfl) (by omega) lT_0 (by rw [fX_len]; decide) h0 (C9 := RX1) (T9 := TX1) (NF9 := 2) (ci9 := 3) (fs9 := [.null, .int 0]) zinX1 tyX1 tyX1_ok rfl (by decide +kernel) zw24 zw25 zw2 (by decide) zm_X1_init rfl zw27 (List.mem_of_getElem? (i := 0) rfl) ⟨by decide, by decide, by decide, by decide⟩ (c_X1_init l rfl) dX3_init_24 dX3_init_27 dX3_init_28 dX3_init_31 (fun _ ad2 h9 _ Xn => ?_)
  replace h0 : ad2 0 = q := (h9 0 (by omega)).trans h0
  have X2 : zCx p s m args meth c cX3_init 1 RX3 none D (zTy cI cO) 4 ad2 A := Xn
  refine z_cong9 (N9 := 4) (cells9 := 3) (slots9 := 11814) (ad9 := ad2) (g9 := lT cI cO 4 ad2) rfl rfl rfl (fun _ _ => rfl) (fun k hk => lT_stepL (r := 0) (by omega) h9 k hk) ?_
  clear h9 Xn X1
  refine z_aload_n X2 0 rfl rfl dX3_init_34 ?_
  refine z_mkN (host := "TowerFields") X2 hnm hO (C := RX3) (T := TX3) (NF := 15) (ci := 5) zinX3 tyX3 tyX3_ok nmX3 rfl (fs := fX vT dT 4 15 ad2) 4 (by decide) (ref := "TowerFields") zw124 rfl rfl rfl (ty := .object "TowerFields$Line") (by decide +kernel) (fun _ => rfl) (fun _ => rfl) (by omega) lT_0 (by rw [fX_len]; decide) h0 (C9 := RX1) (T9 := TX1) (NF9 := 2) (ci9 := 3) (fs9 := [.null, .int 0]) zinX1 tyX1 tyX1_ok rfl (by decide +kernel) zw24 zw25 zw2 (by decide) zm_X1_init rfl zw27 (List.mem_of_getElem? (i := 0) rfl) ⟨by decide, by decide, by decide, by decide⟩ (c_X1_init l rfl) dX3_init_35 dX3_init_38 dX3_init_39 dX3_init_42 (fun _ ad3 h9 _ Xn => ?_)
  replace h0 : ad3 0 = q := (h9 0 (by omega)).trans h0
  have X3 : zCx p s m args meth c cX3_init 1 RX3 none D (zTy cI cO) 6 ad3 A := Xn
  refine z_cong9 (N9 := 6) (cells9 := 5) (slots9 := 11868) (ad9 := ad3) (g9 := lT cI cO 5 ad3) rfl rfl rfl (fun _ _ => rfl) (fun k hk => lT_stepL (r := 1) (by omega) h9 k hk) ?_
  clear h9 Xn X2
  refine z_aload_n X3 0 rfl rfl dX3_init_45 ?_
  refine z_mk X3 hnm hO (C := RX3) (T := TX3) (NF := 15) (ci := 5) zinX3 tyX3 tyX3_ok nmX3 rfl (fs := fX vT dT 5 15 ad3) 5 (by decide) (ref := "TowerFields") zw125 rfl rfl rfl (ty := .object "TowerFields$Poly") (by decide +kernel) (fun _ => rfl) (fun _ => rfl) (by omega) lT_0 (by rw [fX_len]; decide) h0 (C9 := RX2) (T9 := TX2) (NF9 := 1) (ci9 := 4) (fs9 := [.null]) zinX2 tyX2 tyX2_ok rfl (by decide +kernel) zw40 zw41 zw3 (by decide) zm_X2_init rfl zw43 zw42 ⟨by decide, by decide, by decide, by decide⟩ (c_X2_init l rfl rfl) dX3_init_46 dX3_init_49 dX3_init_50 dX3_init_53 (fun _ ad4 h9 _ Xn => ?_)
  replace h0 : ad4 0 = q := (h9 0 (by omega)).trans h0
  have X4 : zCx p s m args meth c cX3_init 1 RX3 none D (zTy cI cO) 34 ad4 A := Xn
  refine z_cong9 (N9 := 34) (cells9 := 33) (slots9 := 12584) (ad9 := ad4) (g9 := lT cI cO 6 ad4) rfl rfl rfl (fun _ _ => rfl) (fun k hk => lT_stepP (q := 0) (by omega) h9 k hk) ?_
  clear h9 Xn X3
  refine z_aload_n X4 0 rfl rfl dX3_init_56 ?_
  refine z_mk X4 hnm hO (C := RX3) (T := TX3) (NF := 15) (ci := 5) zinX3 tyX3 tyX3_ok nmX3 rfl (fs := fX vT dT 6 15 ad4) 6 (by decide) (ref := "TowerFields") zw126 rfl rfl rfl (ty := .object "TowerFields$Poly") (by decide +kernel) (fun _ => rfl) (fun _ => rfl) (by omega) lT_0 (by rw [fX_len]; decide) h0 (C9 := RX2) (T9 := TX2) (NF9 := 1) (ci9 := 4) (fs9 := [.null]) zinX2 tyX2 tyX2_ok rfl (by decide +kernel) zw40 zw41 zw3 (by decide) zm_X2_init rfl zw43 zw42 ⟨by decide, by decide, by decide, by decide⟩ (c_X2_init l rfl rfl) dX3_init_57 dX3_init_60 dX3_init_61 dX3_init_64 (fun _ ad5 h9 _ Xn => ?_)
  replace h0 : ad5 0 = q := (h9 0 (by omega)).trans h0
  have X5 : zCx p s m args meth c cX3_init 1 RX3 none D (zTy cI cO) 62 ad5 A := Xn
  refine z_cong9 (N9 := 62) (cells9 := 61) (slots9 := 13300) (ad9 := ad5) (g9 := lT cI cO 7 ad5) rfl rfl rfl (fun _ _ => rfl) (fun k hk => lT_stepP (q := 1) (by omega) h9 k hk) ?_
  clear h9 Xn X4
  refine z_aload_n X5 0 rfl rfl dX3_init_67 ?_
  refine z_mk X5 hnm hO (C := RX3) (T := TX3) (NF := 15) (ci := 5) zinX3 tyX3 tyX3_ok nmX3 rfl (fs := fX vT dT 7 15 ad5) 7 (by decide) (ref := "TowerFields") zw127 rfl rfl rfl (ty := .object "TowerFields$Poly") (by decide +kernel) (fun _ => rfl) (fun _ => rfl) (by omega) lT_0 (by rw [fX_len]; decide) h0 (C9 := RX2) (T9 := TX2) (NF9 := 1) (ci9 := 4) (fs9 := [.null]) zinX2 tyX2 tyX2_ok rfl (by decide +kernel) zw40 zw41 zw3 (by decide) zm_X2_init rfl zw43 zw42 ⟨by decide, by decide, by decide, by decide⟩ (c_X2_init l rfl rfl) dX3_init_68 dX3_init_71 dX3_init_72 dX3_init_75 (fun _ ad6 h9 _ Xn => ?_)
  replace h0 : ad6 0 = q := (h9 0 (by omega)).trans h0
  have X6 : zCx p s m args meth c cX3_init 1 RX3 none D (zTy cI cO) 90 ad6 A := Xn
  refine z_cong9 (N9 := 90) (cells9 := 89) (slots9 := 14016) (ad9 := ad6) (g9 := lT cI cO 8 ad6) rfl rfl rfl (fun _ _ => rfl) (fun k hk => lT_stepP (q := 2) (by omega) h9 k hk) ?_
  clear h9 Xn X5
  refine z_aload_n X6 0 rfl rfl dX3_init_78 ?_
  refine z_mk X6 hnm hO (C := RX3) (T := TX3) (NF := 15) (ci := 5) zinX3 tyX3 tyX3_ok nmX3 rfl (fs := fX vT dT 8 15 ad6) 8 (by decide) (ref := "TowerFields") zw128 rfl rfl rfl (ty := .object "TowerFields$Poly") (by decide +kernel) (fun _ => rfl) (fun _ => rfl) (by omega) lT_0 (by rw [fX_len]; decide) h0 (C9 := RX2) (T9 := TX2) (NF9 := 1) (ci9 := 4) (fs9 := [.null]) zinX2 tyX2 tyX2_ok rfl (by decide +kernel) zw40 zw41 zw3 (by decide) zm_X2_init rfl zw43 zw42 ⟨by decide, by decide, by decide, by decide⟩ (c_X2_init l rfl rfl) dX3_init_79 dX3_init_82 dX3_init_83 dX3_init_86 (fun _ ad7 h9 _ Xn => ?_)
  replace h0 : ad7 0 = q := (h9 0 (by omega)).trans h0
  have X7 : zCx p s m args meth c cX3_init 1 RX3 none D (zTy cI cO) 118 ad7 A := Xn
  refine z_cong9 (N9 := 118) (cells9 := 117) (slots9 := 14732) (ad9 := ad7) (g9 := lT cI cO 9 ad7) rfl rfl rfl (fun _ _ => rfl) (fun k hk => lT_stepP (q := 3) (by omega) h9 k hk) ?_
  clear h9 Xn X6
  refine z_aload_n X7 0 rfl rfl dX3_init_89 ?_
  refine z_mk X7 hnm hO (C := RX3) (T := TX3) (NF := 15) (ci := 5) zinX3 tyX3 tyX3_ok nmX3 rfl (fs := fX vT dT 9 15 ad7) 9 (by decide) (ref := "TowerFields") zw129 rfl rfl rfl (ty := .object "TowerFields$Poly") (by decide +kernel) (fun _ => rfl) (fun _ => rfl) (by omega) lT_0 (by rw [fX_len]; decide) h0 (C9 := RX2) (T9 := TX2) (NF9 := 1) (ci9 := 4) (fs9 := [.null]) zinX2 tyX2 tyX2_ok rfl (by decide +kernel) zw40 zw41 zw3 (by decide) zm_X2_init rfl zw43 zw42 ⟨by decide, by decide, by decide, by decide⟩ (c_X2_init l rfl rfl) dX3_init_90 dX3_init_93 dX3_init_94 dX3_init_97 (fun _ ad8 h9 _ Xn => ?_)
  replace h0 : ad8 0 = q := (h9 0 (by omega)).trans h0
  have X8 : zCx p s m args meth c cX3_init 1 RX3 none D (zTy cI cO) 146 ad8 A := Xn
  refine z_cong9 (N9 := 146) (cells9 := 145) (slots9 := 15448) (ad9 := ad8) (g9 := lT cI cO 10 ad8) rfl rfl rfl (fun _ _ => rfl) (fun k hk => lT_stepP (q := 4) (by omega) h9 k hk) ?_
  clear h9 Xn X7
  refine z_aload_n X8 0 rfl rfl dX3_init_100 ?_
  refine z_mk X8 hnm hO (C := RX3) (T := TX3) (NF := 15) (ci := 5) zinX3 tyX3 tyX3_ok nmX3 rfl (fs := fX vT dT 10 15 ad8) 10 (by decide) (ref := "TowerFields") zw130 rfl rfl rfl (ty := .object "TowerFields$Poly") (by decide +kernel) (fun _ => rfl) (fun _ => rfl) (by omega) lT_0 (by rw [fX_len]; decide) h0 (C9 := RX2) (T9 := TX2) (NF9 := 1) (ci9 := 4) (fs9 := [.null]) zinX2 tyX2 tyX2_ok rfl (by decide +kernel) zw40 zw41 zw3 (by decide) zm_X2_init rfl zw43 zw42 ⟨by decide, by decide, by decide, by decide⟩ (c_X2_init l rfl rfl) dX3_init_101 dX3_init_104 dX3_init_105 dX3_init_108 (fun _ ad9 h9 _ Xn => ?_)
  replace h0 : ad9 0 = q := (h9 0 (by omega)).trans h0
  have X9 : zCx p s m args meth c cX3_init 1 RX3 none D (zTy cI cO) 174 ad9 A := Xn
  refine z_cong9 (N9 := 174) (cells9 := 173) (slots9 := 16164) (ad9 := ad9) (g9 := lT cI cO 11 ad9) rfl rfl rfl (fun _ _ => rfl) (fun k hk => lT_stepP (q := 5) (by omega) h9 k hk) ?_
  clear h9 Xn X8
  refine z_aload_n X9 0 rfl rfl dX3_init_111 ?_
  refine z_mk X9 hnm hO (C := RX3) (T := TX3) (NF := 15) (ci := 5) zinX3 tyX3 tyX3_ok nmX3 rfl (fs := fX vT dT 11 15 ad9) 11 (by decide) (ref := "TowerFields") zw131 rfl rfl rfl (ty := .object "TowerFields$Poly") (by decide +kernel) (fun _ => rfl) (fun _ => rfl) (by omega) lT_0 (by rw [fX_len]; decide) h0 (C9 := RX2) (T9 := TX2) (NF9 := 1) (ci9 := 4) (fs9 := [.null]) zinX2 tyX2 tyX2_ok rfl (by decide +kernel) zw40 zw41 zw3 (by decide) zm_X2_init rfl zw43 zw42 ⟨by decide, by decide, by decide, by decide⟩ (c_X2_init l rfl rfl) dX3_init_112 dX3_init_115 dX3_init_116 dX3_init_119 (fun _ ad10 h9 _ Xn => ?_)
  replace h0 : ad10 0 = q := (h9 0 (by omega)).trans h0
  have X10 : zCx p s m args meth c cX3_init 1 RX3 none D (zTy cI cO) 202 ad10 A := Xn
  refine z_cong9 (N9 := 202) (cells9 := 201) (slots9 := 16880) (ad9 := ad10) (g9 := lT cI cO 12 ad10) rfl rfl rfl (fun _ _ => rfl) (fun k hk => lT_stepP (q := 6) (by omega) h9 k hk) ?_
  clear h9 Xn X9
  refine z_aload_n X10 0 rfl rfl dX3_init_122 ?_
  refine z_mk X10 hnm hO (C := RX3) (T := TX3) (NF := 15) (ci := 5) zinX3 tyX3 tyX3_ok nmX3 rfl (fs := fX vT dT 12 15 ad10) 12 (by decide) (ref := "TowerFields") zw132 rfl rfl rfl (ty := .object "TowerFields$Poly") (by decide +kernel) (fun _ => rfl) (fun _ => rfl) (by omega) lT_0 (by rw [fX_len]; decide) h0 (C9 := RX2) (T9 := TX2) (NF9 := 1) (ci9 := 4) (fs9 := [.null]) zinX2 tyX2 tyX2_ok rfl (by decide +kernel) zw40 zw41 zw3 (by decide) zm_X2_init rfl zw43 zw42 ⟨by decide, by decide, by decide, by decide⟩ (c_X2_init l rfl rfl) dX3_init_123 dX3_init_126 dX3_init_127 dX3_init_130 (fun _ ad11 h9 _ Xn => ?_)
  replace h0 : ad11 0 = q := (h9 0 (by omega)).trans h0
  have X11 : zCx p s m args meth c cX3_init 1 RX3 none D (zTy cI cO) 230 ad11 A := Xn
  refine z_cong9 (N9 := 230) (cells9 := 229) (slots9 := 17596) (ad9 := ad11) (g9 := lT cI cO 13 ad11) rfl rfl rfl (fun _ _ => rfl) (fun k hk => lT_stepP (q := 7) (by omega) h9 k hk) ?_
  clear h9 Xn X10
  refine z_aload_n X11 0 rfl rfl dX3_init_133 ?_
  refine z_mk X11 hnm hO (C := RX3) (T := TX3) (NF := 15) (ci := 5) zinX3 tyX3 tyX3_ok nmX3 rfl (fs := fX vT dT 13 15 ad11) 13 (by decide) (ref := "TowerFields") zw133 rfl rfl rfl (ty := .object "TowerFields$Poly") (by decide +kernel) (fun _ => rfl) (fun _ => rfl) (by omega) lT_0 (by rw [fX_len]; decide) h0 (C9 := RX2) (T9 := TX2) (NF9 := 1) (ci9 := 4) (fs9 := [.null]) zinX2 tyX2 tyX2_ok rfl (by decide +kernel) zw40 zw41 zw3 (by decide) zm_X2_init rfl zw43 zw42 ⟨by decide, by decide, by decide, by decide⟩ (c_X2_init l rfl rfl) dX3_init_134 dX3_init_137 dX3_init_138 dX3_init_141 (fun _ ad12 h9 _ Xn => ?_)
  replace h0 : ad12 0 = q := (h9 0 (by omega)).trans h0
  have X12 : zCx p s m args meth c cX3_init 1 RX3 none D (zTy cI cO) 258 ad12 A := Xn
  refine z_cong9 (N9 := 258) (cells9 := 257) (slots9 := 18312) (ad9 := ad12) (g9 := lT cI cO 14 ad12) rfl rfl rfl (fun _ _ => rfl) (fun k hk => lT_stepP (q := 8) (by omega) h9 k hk) ?_
  clear h9 Xn X11
  refine z_aload_n X12 0 rfl rfl dX3_init_144 ?_
  refine z_mkN (host := "TowerFields") X12 hnm hO (C := RX3) (T := TX3) (NF := 15) (ci := 5) zinX3 tyX3 tyX3_ok nmX3 rfl (fs := fX vT dT 14 15 ad12) 14 (by decide) (ref := "TowerFields") zw134 rfl rfl rfl (ty := .object "TowerFields$Divisor") (by decide +kernel) (fun _ => rfl) (fun _ => rfl) (by omega) lT_0 (by rw [fX_len]; decide) h0 (C9 := RX0) (T9 := TX0) (NF9 := 15) (ci9 := 2) (fs9 := List.replicate 15 .null) zinX0 tyX0 tyX0_ok rfl (by decide +kernel) zw53 zw54 zw4 (by decide) zm_X0_init rfl zw56 (List.mem_of_getElem? (i := 4) rfl) ⟨by decide, by decide, by decide, by decide⟩ (c_X0_init l rfl rfl) dX3_init_145 dX3_init_148 dX3_init_149 dX3_init_152 (fun _ ad13 h9 _ Xn => ?_)
  replace h0 : ad13 0 = q := (h9 0 (by omega)).trans h0
  have X13 : zCx p s m args meth c cX3_init 1 RX3 none D (zTy cI cO) 419 ad13 A := Xn
  refine z_cong9 (N9 := 419) (cells9 := 418) (slots9 := 22447) (ad9 := ad13) (g9 := lT cI cO 15 ad13) rfl rfl rfl (fun _ _ => rfl) (fun k hk => lT_stepD h9 k hk) ?_
  clear h9 Xn X12
  have X : zCx p s m args meth c cX3_init 1 RX3 none D (zTy cI cO) 419 (fun i => ad13 (zpi i)) A := zx_re X13 (fun i j hi hj h => by
    have h1 := zx_I X13 _ _ (zpi_lt i hi) (zpi_lt j hj) h
    rw [← zrho_pi i hi, ← zrho_pi j hj, h1]) (fun k hk => zx_A X13 _ (zpi_lt k hk))
  have h1 : (fun i => ad13 (zpi i)) 0 = q := h0
  refine z_perm zpi (fun k hk => zpi_lt k hk) (g9 := gC (fun i => ad13 (zpi i)) cI cO zS0) (fun k hk => gC_pi hk) ?_
  clear h0 X13
  generalize (fun i => ad13 (zpi i)) = ad at X h1 ⊢
  refine z_aload_n X 0 rfl rfl dX3_init_155 ?_
  refine z_stq (st9 := [.ref (ad 0)]) (by rw [h1]) ?_
  refine z_get X zinX3 0 (by omega) gC_T (ci := 5) rfl 13 (by decide) (ref := "TowerFields") zw133 rfl rfl dX3_init_156 ?_
  refine z_iconst X (n := 0) dX3_init_159 ?_
  refine z_callVr X zm_X2_row zw113 zw114 zw112 ⟨by decide, by decide, by decide, by decide⟩ [.int (iZ 0)] (c_X2_row l zS0 (q := 8) (by omega) (i := 0) (by omega)) rfl rfl (Nat.le_of_ble_eq_true rfl) (by omega) (gC_P (by omega)) (q := vwCl[4]) rfl rfl dX3_init_160 (fun j _ hj => ?_)
  have ej : j = 104 + 31 := hj
  subst ej
  refine z_iconst X (n := 0) dX3_init_163 ?_
  refine z_iconst X (n := 1) dX3_init_164 ?_
  have hR0 : zR cu (fun _ => 0) (fun _ => 0, 0, 0) zS0 := ⟨fun k hk => hk, fun i j _ _ h => h, fun k _ j _ => (mp_zero HU j).symm, fun k _ => by
    rw [show mp_sz cu (0 : U) = 0 from (mp_sz_0 HU).mpr rfl]; rfl, fun k _ => by rw [show mp_sz cu (0 : U) = 0 from (mp_sz_0 HU).mpr rfl]; omega, rfl⟩
  refine z_callVv X zm_X1_put zw117 zw118 zw116 ⟨by decide, by decide, by decide, by decide⟩ [.int (iZ 0), .int (iZ (vz 1))] (c_X1_put HU l hR0 (k := 104) (by omega) (i := 0) (by omega) (by omega) 1) rfl rfl (Nat.le_of_ble_eq_true rfl) (by omega) (gC_L (by omega)) (q := vwCl[3]) rfl rfl dX3_init_165 (fun S1 hR1 => ?_)
  refine z_aload_n X 0 rfl rfl dX3_init_168 ?_
  refine z_stq (st9 := [.ref (ad 0)]) (by rw [h1]) ?_
  refine z_get X zinX3 0 (by omega) gC_T (ci := 5) rfl 4 (by decide) (ref := "TowerFields") zw124 rfl rfl dX3_init_169 ?_
  refine z_iconst X (n := 0) dX3_init_172 ?_
  refine z_iconst X (n := 1) dX3_init_173 ?_
  refine z_callVv X zm_X1_put zw117 zw118 zw116 ⟨by decide, by decide, by decide, by decide⟩ [.int (iZ 0), .int (iZ (vz 1))] (c_X1_put HU l hR1 (k := 183) (by omega) (i := 0) (by omega) (by omega) 1) rfl rfl (Nat.le_of_ble_eq_true rfl) (by omega) (gC_L (by omega)) (q := vwCl[3]) rfl rfl dX3_init_174 (fun S2 hR2 => ?_)
  refine fin S2 (by decide) (by decide) X h1 (fun j _ => rfl) (fun EL => z_start0 HU HA ?_ EL) dX3_init_177
  exact hR2
def sM (q : Nat) : Nat := if q = 2 then 1 else if q = 3 then 2 else if q < 5 then 0 else if q < 14 then q - 2 else if q = 14 then 0 else q - 3
def fM (n : Nat) (a : Nat → Nat) : List Value := (List.range 21).map (fun q => if sM q = 0 then .int 0 else if sM q ≤ n then .ref (a (sM q)) else .null)
theorem fM_len {n : Nat} {a : Nat → Nat} : (fM n a).length = 21 := by simp [fM]
theorem fM_step {n q : Nat} {a a9 : Nat → Nat} (h : ∀ i, i < n + 1 → a9 i = a i) (hq : sM q = n + 1) (hi : ∀ i, i < 21 → sM i = n + 1 → i = q) : (fM n a).set q (.ref (a9 (n + 1))) = fM (n + 1) a9 := by
  apply List.ext_getElem
  · simp [fM]
  · intro i h1 h2
    have hl : i < 21 := by simpa [fM] using h2
    simp only [fM, List.getElem_set, List.getElem_map, List.getElem_range]
    by_cases e : q = i
    · subst e
      rw [if_pos rfl, if_neg (by omega), if_pos (by omega), hq]
    · rw [if_neg e]
      by_cases z : sM i = 0
      · rw [if_pos z, if_pos z]
      · rw [if_neg z, if_neg z]
        by_cases c : sM i ≤ n
        · rw [if_pos c, if_pos (by omega), h _ (by omega)]
        · rw [if_neg c, if_neg (fun c9 => e (hi i hl (by omega)).symm)]
def lM (cI : ClassId) (n : Nat) (a : Nat → Nat) (k : Nat) : va_E := if k = 0 then .inr (6, fM n a) else .inl (cI, zLn k, .inl (fun _ => 0))
theorem lM_0 {cI : ClassId} {n : Nat} {a : Nat → Nat} : lM cI n a 0 = .inr (6, fM n a) := if_pos rfl
theorem lM_step {cI : ClassId} {n q : Nat} {a a9 : Nat → Nat} (h : ∀ i, i < n + 1 → a9 i = a i) (hq : sM q = n + 1) (hi : ∀ i, i < 21 → sM i = n + 1 → i = q) (k : Nat) (hk : k < n + 1 + 1) : lM cI (n + 1) a9 k = va_up (zg (n + 1) (lM cI n a) (fun _ => .inl (cI, zLn (n + 1), .inl (fun _ => 0)))) 0 (.inr (6, (fM n a).set q (.ref (a9 (n + 1))))) k := by
  by_cases k0 : k = 0
  · rw [k0, va_up_self, lM_0, fM_step h hq hi]
  · rw [va_up_ne _ _ k0]
    by_cases kn : k < n + 1
    · rw [zg_l kn, lM, lM, if_neg k0, if_neg k0]
    · rw [zg_r (by omega), lM, if_neg k0, show k = n + 1 by omega]
def zM0 : zM := (fun _ _ => 0, fun _ => 0, 0, 0, 0, 0)
theorem gM_0 {cI : ClassId} {a : Nat → Nat} (k : Nat) (hk : k < 18) : lM cI 17 a k = gM a cI zM0 k := by
  by_cases k0 : k = 0
  · rw [k0, gM_O, lM_0]
    rfl
  · by_cases h : k = 12
    · rw [h, gM_V]
      rfl
    · rw [gM_A ⟨by omega, hk, h⟩, lM, if_neg k0]
      rfl
theorem c_X4_init (l : Launch) {D : va_G} {tys : List (ClassId × FieldType)} {cI : ClassId} (hI : tys[0]? = some (cI, .int)) : zMc l yX4_init cX4_init 1 1 17 117480 D tys (.inr (6, [.int 0, .int 0, .null, .null, .int 0, .null, .null, .null, .null, .null, .null, .null, .null, .null, .int 0, .null, .null, .null, .null, .null, .null])) 18 (fun (_ : Unit) ad => gM ad cI zM0) (fun _ => True) := by
  refine z_goc zm_X4_init rfl (by decide) ?_
  intro p e s m args below meth c A q Q X hnm hO fin
  refine z_aload_n X 0 rfl rfl dX4_init_0 ?_
  refine z_objinit X zw669 (by decide) dX4_init_1 ?_
  refine z_cong9 (N9 := 1) (cells9 := 0) (slots9 := 0) (ad9 := fun _ => q) (g9 := lM cI 0 (fun _ => q)) rfl rfl rfl (fun _ _ => rfl) (fun k hk => by rw [show k = 0 by omega]; rfl) ?_
  have h0 : (fun _ : Nat => q) 0 = q := rfl
  generalize (fun _ : Nat => q) = ad0 at X h0 ⊢
  have X0 := X
  clear X
  refine z_aload_n X0 0 rfl rfl dX4_init_4 ?_
  refine z_sipush X0 (n := 5880) (by decide) dX4_init_5 ?_
  refine z_mkI X0 hnm (C := RX4) (T := TX4) (NF := 21) (ci := 6) zinX4 tyX4 tyX4_ok nmX4 rfl (fs := fM 0 ad0) 2 (by decide) (ref := "TowerFieldsModel") zw673 rfl rfl rfl (ty := .array .int) (by decide +kernel) (fun _ => rfl) (fun _ => rfl) (by omega) lM_0 (by rw [fM_len]; decide) h0 0 hI (n := 5880) (n9 := zLn 1) (by omega) (by omega) rfl (by decide) (by decide) (by decide) dX4_init_8 dX4_init_10 (fun ad1 h9 Xn => ?_)
  replace h0 : ad1 0 = q := (h9 0 (by omega)).trans h0
  have X1 : zCx p s m args meth c cX4_init 1 RX4 none D tys 2 ad1 A := Xn
  refine z_cong9 (N9 := 2) (cells9 := 1) (slots9 := 5880) (ad9 := ad1) (g9 := lM cI 1 ad1) rfl rfl rfl (fun _ _ => rfl) (fun k hk => lM_step h9 rfl (by decide) k hk) ?_
  clear h9 Xn X0
  refine z_aload_n X1 0 rfl rfl dX4_init_13 ?_
  refine z_sipush X1 (n := 5880) (by decide) dX4_init_14 ?_
  refine z_mkI X1 hnm (C := RX4) (T := TX4) (NF := 21) (ci := 6) zinX4 tyX4 tyX4_ok nmX4 rfl (fs := fM 1 ad1) 3 (by decide) (ref := "TowerFieldsModel") zw674 rfl rfl rfl (ty := .array .int) (by decide +kernel) (fun _ => rfl) (fun _ => rfl) (by omega) lM_0 (by rw [fM_len]; decide) h0 0 hI (n := 5880) (n9 := zLn 2) (by omega) (by omega) rfl (by decide) (by decide) (by decide) dX4_init_17 dX4_init_19 (fun ad2 h9 Xn => ?_)
  replace h0 : ad2 0 = q := (h9 0 (by omega)).trans h0
  have X2 : zCx p s m args meth c cX4_init 1 RX4 none D tys 3 ad2 A := Xn
  refine z_cong9 (N9 := 3) (cells9 := 2) (slots9 := 11760) (ad9 := ad2) (g9 := lM cI 2 ad2) rfl rfl rfl (fun _ _ => rfl) (fun k hk => lM_step h9 rfl (by decide) k hk) ?_
  clear h9 Xn X1
  refine z_aload_n X2 0 rfl rfl dX4_init_22 ?_
  refine z_sipush X2 (n := 880) (by decide) dX4_init_23 ?_
  refine z_mkI X2 hnm (C := RX4) (T := TX4) (NF := 21) (ci := 6) zinX4 tyX4 tyX4_ok nmX4 rfl (fs := fM 2 ad2) 5 (by decide) (ref := "TowerFieldsModel") zw676 rfl rfl rfl (ty := .array .int) (by decide +kernel) (fun _ => rfl) (fun _ => rfl) (by omega) lM_0 (by rw [fM_len]; decide) h0 0 hI (n := 880) (n9 := zLn 3) (by omega) (by omega) rfl (by decide) (by decide) (by decide) dX4_init_26 dX4_init_28 (fun ad3 h9 Xn => ?_)
  replace h0 : ad3 0 = q := (h9 0 (by omega)).trans h0
  have X3 : zCx p s m args meth c cX4_init 1 RX4 none D tys 4 ad3 A := Xn
  refine z_cong9 (N9 := 4) (cells9 := 3) (slots9 := 12640) (ad9 := ad3) (g9 := lM cI 3 ad3) rfl rfl rfl (fun _ _ => rfl) (fun k hk => lM_step h9 rfl (by decide) k hk) ?_
  clear h9 Xn X2
  refine z_aload_n X3 0 rfl rfl dX4_init_31 ?_
  refine z_sipush X3 (n := 880) (by decide) dX4_init_32 ?_
  refine z_mkI X3 hnm (C := RX4) (T := TX4) (NF := 21) (ci := 6) zinX4 tyX4 tyX4_ok nmX4 rfl (fs := fM 3 ad3) 6 (by decide) (ref := "TowerFieldsModel") zw677 rfl rfl rfl (ty := .array .int) (by decide +kernel) (fun _ => rfl) (fun _ => rfl) (by omega) lM_0 (by rw [fM_len]; decide) h0 0 hI (n := 880) (n9 := zLn 4) (by omega) (by omega) rfl (by decide) (by decide) (by decide) dX4_init_35 dX4_init_37 (fun ad4 h9 Xn => ?_)
  replace h0 : ad4 0 = q := (h9 0 (by omega)).trans h0
  have X4 : zCx p s m args meth c cX4_init 1 RX4 none D tys 5 ad4 A := Xn
  refine z_cong9 (N9 := 5) (cells9 := 4) (slots9 := 13520) (ad9 := ad4) (g9 := lM cI 4 ad4) rfl rfl rfl (fun _ _ => rfl) (fun k hk => lM_step h9 rfl (by decide) k hk) ?_
  clear h9 Xn X3
  refine z_aload_n X4 0 rfl rfl dX4_init_40 ?_
  refine z_sipush X4 (n := 880) (by decide) dX4_init_41 ?_
  refine z_mkI X4 hnm (C := RX4) (T := TX4) (NF := 21) (ci := 6) zinX4 tyX4 tyX4_ok nmX4 rfl (fs := fM 4 ad4) 7 (by decide) (ref := "TowerFieldsModel") zw678 rfl rfl rfl (ty := .array .int) (by decide +kernel) (fun _ => rfl) (fun _ => rfl) (by omega) lM_0 (by rw [fM_len]; decide) h0 0 hI (n := 880) (n9 := zLn 5) (by omega) (by omega) rfl (by decide) (by decide) (by decide) dX4_init_44 dX4_init_46 (fun ad5 h9 Xn => ?_)
  replace h0 : ad5 0 = q := (h9 0 (by omega)).trans h0
  have X5 : zCx p s m args meth c cX4_init 1 RX4 none D tys 6 ad5 A := Xn
  refine z_cong9 (N9 := 6) (cells9 := 5) (slots9 := 14400) (ad9 := ad5) (g9 := lM cI 5 ad5) rfl rfl rfl (fun _ _ => rfl) (fun k hk => lM_step h9 rfl (by decide) k hk) ?_
  clear h9 Xn X4
  refine z_aload_n X5 0 rfl rfl dX4_init_49 ?_
  refine z_sipush X5 (n := 880) (by decide) dX4_init_50 ?_
  refine z_mkI X5 hnm (C := RX4) (T := TX4) (NF := 21) (ci := 6) zinX4 tyX4 tyX4_ok nmX4 rfl (fs := fM 5 ad5) 8 (by decide) (ref := "TowerFieldsModel") zw679 rfl rfl rfl (ty := .array .int) (by decide +kernel) (fun _ => rfl) (fun _ => rfl) (by omega) lM_0 (by rw [fM_len]; decide) h0 0 hI (n := 880) (n9 := zLn 6) (by omega) (by omega) rfl (by decide) (by decide) (by decide) dX4_init_53 dX4_init_55 (fun ad6 h9 Xn => ?_)
  replace h0 : ad6 0 = q := (h9 0 (by omega)).trans h0
  have X6 : zCx p s m args meth c cX4_init 1 RX4 none D tys 7 ad6 A := Xn
  refine z_cong9 (N9 := 7) (cells9 := 6) (slots9 := 15280) (ad9 := ad6) (g9 := lM cI 6 ad6) rfl rfl rfl (fun _ _ => rfl) (fun k hk => lM_step h9 rfl (by decide) k hk) ?_
  clear h9 Xn X5
  refine z_aload_n X6 0 rfl rfl dX4_init_58 ?_
  refine z_sipush X6 (n := 880) (by decide) dX4_init_59 ?_
  refine z_mkI X6 hnm (C := RX4) (T := TX4) (NF := 21) (ci := 6) zinX4 tyX4 tyX4_ok nmX4 rfl (fs := fM 6 ad6) 9 (by decide) (ref := "TowerFieldsModel") zw680 rfl rfl rfl (ty := .array .int) (by decide +kernel) (fun _ => rfl) (fun _ => rfl) (by omega) lM_0 (by rw [fM_len]; decide) h0 0 hI (n := 880) (n9 := zLn 7) (by omega) (by omega) rfl (by decide) (by decide) (by decide) dX4_init_62 dX4_init_64 (fun ad7 h9 Xn => ?_)
  replace h0 : ad7 0 = q := (h9 0 (by omega)).trans h0
  have X7 : zCx p s m args meth c cX4_init 1 RX4 none D tys 8 ad7 A := Xn
  refine z_cong9 (N9 := 8) (cells9 := 7) (slots9 := 16160) (ad9 := ad7) (g9 := lM cI 7 ad7) rfl rfl rfl (fun _ _ => rfl) (fun k hk => lM_step h9 rfl (by decide) k hk) ?_
  clear h9 Xn X6
  refine z_aload_n X7 0 rfl rfl dX4_init_67 ?_
  refine z_sipush X7 (n := 880) (by decide) dX4_init_68 ?_
  refine z_mkI X7 hnm (C := RX4) (T := TX4) (NF := 21) (ci := 6) zinX4 tyX4 tyX4_ok nmX4 rfl (fs := fM 7 ad7) 10 (by decide) (ref := "TowerFieldsModel") zw681 rfl rfl rfl (ty := .array .int) (by decide +kernel) (fun _ => rfl) (fun _ => rfl) (by omega) lM_0 (by rw [fM_len]; decide) h0 0 hI (n := 880) (n9 := zLn 8) (by omega) (by omega) rfl (by decide) (by decide) (by decide) dX4_init_71 dX4_init_73 (fun ad8 h9 Xn => ?_)
  replace h0 : ad8 0 = q := (h9 0 (by omega)).trans h0
  have X8 : zCx p s m args meth c cX4_init 1 RX4 none D tys 9 ad8 A := Xn
  refine z_cong9 (N9 := 9) (cells9 := 8) (slots9 := 17040) (ad9 := ad8) (g9 := lM cI 8 ad8) rfl rfl rfl (fun _ _ => rfl) (fun k hk => lM_step h9 rfl (by decide) k hk) ?_
  clear h9 Xn X7
  refine z_aload_n X8 0 rfl rfl dX4_init_76 ?_
  refine z_sipush X8 (n := 880) (by decide) dX4_init_77 ?_
  refine z_mkI X8 hnm (C := RX4) (T := TX4) (NF := 21) (ci := 6) zinX4 tyX4 tyX4_ok nmX4 rfl (fs := fM 8 ad8) 11 (by decide) (ref := "TowerFieldsModel") zw682 rfl rfl rfl (ty := .array .int) (by decide +kernel) (fun _ => rfl) (fun _ => rfl) (by omega) lM_0 (by rw [fM_len]; decide) h0 0 hI (n := 880) (n9 := zLn 9) (by omega) (by omega) rfl (by decide) (by decide) (by decide) dX4_init_80 dX4_init_82 (fun ad9 h9 Xn => ?_)
  replace h0 : ad9 0 = q := (h9 0 (by omega)).trans h0
  have X9 : zCx p s m args meth c cX4_init 1 RX4 none D tys 10 ad9 A := Xn
  refine z_cong9 (N9 := 10) (cells9 := 9) (slots9 := 17920) (ad9 := ad9) (g9 := lM cI 9 ad9) rfl rfl rfl (fun _ _ => rfl) (fun k hk => lM_step h9 rfl (by decide) k hk) ?_
  clear h9 Xn X8
  refine z_aload_n X9 0 rfl rfl dX4_init_85 ?_
  refine z_sipush X9 (n := 880) (by decide) dX4_init_86 ?_
  refine z_mkI X9 hnm (C := RX4) (T := TX4) (NF := 21) (ci := 6) zinX4 tyX4 tyX4_ok nmX4 rfl (fs := fM 9 ad9) 12 (by decide) (ref := "TowerFieldsModel") zw683 rfl rfl rfl (ty := .array .int) (by decide +kernel) (fun _ => rfl) (fun _ => rfl) (by omega) lM_0 (by rw [fM_len]; decide) h0 0 hI (n := 880) (n9 := zLn 10) (by omega) (by omega) rfl (by decide) (by decide) (by decide) dX4_init_89 dX4_init_91 (fun ad10 h9 Xn => ?_)
  replace h0 : ad10 0 = q := (h9 0 (by omega)).trans h0
  have X10 : zCx p s m args meth c cX4_init 1 RX4 none D tys 11 ad10 A := Xn
  refine z_cong9 (N9 := 11) (cells9 := 10) (slots9 := 18800) (ad9 := ad10) (g9 := lM cI 10 ad10) rfl rfl rfl (fun _ _ => rfl) (fun k hk => lM_step h9 rfl (by decide) k hk) ?_
  clear h9 Xn X9
  refine z_aload_n X10 0 rfl rfl dX4_init_94 ?_
  refine z_sipush X10 (n := 880) (by decide) dX4_init_95 ?_
  refine z_mkI X10 hnm (C := RX4) (T := TX4) (NF := 21) (ci := 6) zinX4 tyX4 tyX4_ok nmX4 rfl (fs := fM 10 ad10) 13 (by decide) (ref := "TowerFieldsModel") zw684 rfl rfl rfl (ty := .array .int) (by decide +kernel) (fun _ => rfl) (fun _ => rfl) (by omega) lM_0 (by rw [fM_len]; decide) h0 0 hI (n := 880) (n9 := zLn 11) (by omega) (by omega) rfl (by decide) (by decide) (by decide) dX4_init_98 dX4_init_100 (fun ad11 h9 Xn => ?_)
  replace h0 : ad11 0 = q := (h9 0 (by omega)).trans h0
  have X11 : zCx p s m args meth c cX4_init 1 RX4 none D tys 12 ad11 A := Xn
  refine z_cong9 (N9 := 12) (cells9 := 11) (slots9 := 19680) (ad9 := ad11) (g9 := lM cI 11 ad11) rfl rfl rfl (fun _ _ => rfl) (fun k hk => lM_step h9 rfl (by decide) k hk) ?_
  clear h9 Xn X10
  refine z_aload_n X11 0 rfl rfl dX4_init_103 ?_
  refine z_bipush X11 (n := 98) (by decide) dX4_init_104 ?_
  refine z_mkI X11 hnm (C := RX4) (T := TX4) (NF := 21) (ci := 6) zinX4 tyX4 tyX4_ok nmX4 rfl (fs := fM 11 ad11) 15 (by decide) (ref := "TowerFieldsModel") zw686 rfl rfl rfl (ty := .array .int) (by decide +kernel) (fun _ => rfl) (fun _ => rfl) (by omega) lM_0 (by rw [fM_len]; decide) h0 0 hI (n := 98) (n9 := zLn 12) (by omega) (by omega) rfl (by decide) (by decide) (by decide) dX4_init_106 dX4_init_108 (fun ad12 h9 Xn => ?_)
  replace h0 : ad12 0 = q := (h9 0 (by omega)).trans h0
  have X12 : zCx p s m args meth c cX4_init 1 RX4 none D tys 13 ad12 A := Xn
  refine z_cong9 (N9 := 13) (cells9 := 12) (slots9 := 19778) (ad9 := ad12) (g9 := lM cI 12 ad12) rfl rfl rfl (fun _ _ => rfl) (fun k hk => lM_step h9 rfl (by decide) k hk) ?_
  clear h9 Xn X11
  refine z_aload_n X12 0 rfl rfl dX4_init_111 ?_
  refine z_ldc X12 (v := iZ 86240) zw670 dX4_init_112 ?_
  refine z_mkI X12 hnm (C := RX4) (T := TX4) (NF := 21) (ci := 6) zinX4 tyX4 tyX4_ok nmX4 rfl (fs := fM 12 ad12) 16 (by decide) (ref := "TowerFieldsModel") zw687 rfl rfl rfl (ty := .array .int) (by decide +kernel) (fun _ => rfl) (fun _ => rfl) (by omega) lM_0 (by rw [fM_len]; decide) h0 0 hI (n := 86240) (n9 := zLn 13) (by omega) (by omega) rfl (by decide) (by decide) (by decide) dX4_init_114 dX4_init_116 (fun ad13 h9 Xn => ?_)
  replace h0 : ad13 0 = q := (h9 0 (by omega)).trans h0
  have X13 : zCx p s m args meth c cX4_init 1 RX4 none D tys 14 ad13 A := Xn
  refine z_cong9 (N9 := 14) (cells9 := 13) (slots9 := 106018) (ad9 := ad13) (g9 := lM cI 13 ad13) rfl rfl rfl (fun _ _ => rfl) (fun k hk => lM_step h9 rfl (by decide) k hk) ?_
  clear h9 Xn X12
  refine z_aload_n X13 0 rfl rfl dX4_init_119 ?_
  refine z_sipush X13 (n := 9604) (by decide) dX4_init_120 ?_
  refine z_mkI X13 hnm (C := RX4) (T := TX4) (NF := 21) (ci := 6) zinX4 tyX4 tyX4_ok nmX4 rfl (fs := fM 13 ad13) 17 (by decide) (ref := "TowerFieldsModel") zw688 rfl rfl rfl (ty := .array .int) (by decide +kernel) (fun _ => rfl) (fun _ => rfl) (by omega) lM_0 (by rw [fM_len]; decide) h0 0 hI (n := 9604) (n9 := zLn 14) (by omega) (by omega) rfl (by decide) (by decide) (by decide) dX4_init_123 dX4_init_125 (fun ad14 h9 Xn => ?_)
  replace h0 : ad14 0 = q := (h9 0 (by omega)).trans h0
  have X14 : zCx p s m args meth c cX4_init 1 RX4 none D tys 15 ad14 A := Xn
  refine z_cong9 (N9 := 15) (cells9 := 14) (slots9 := 115622) (ad9 := ad14) (g9 := lM cI 14 ad14) rfl rfl rfl (fun _ _ => rfl) (fun k hk => lM_step h9 rfl (by decide) k hk) ?_
  clear h9 Xn X13
  refine z_aload_n X14 0 rfl rfl dX4_init_128 ?_
  refine z_sipush X14 (n := 880) (by decide) dX4_init_129 ?_
  refine z_mkI X14 hnm (C := RX4) (T := TX4) (NF := 21) (ci := 6) zinX4 tyX4 tyX4_ok nmX4 rfl (fs := fM 14 ad14) 18 (by decide) (ref := "TowerFieldsModel") zw689 rfl rfl rfl (ty := .array .int) (by decide +kernel) (fun _ => rfl) (fun _ => rfl) (by omega) lM_0 (by rw [fM_len]; decide) h0 0 hI (n := 880) (n9 := zLn 15) (by omega) (by omega) rfl (by decide) (by decide) (by decide) dX4_init_132 dX4_init_134 (fun ad15 h9 Xn => ?_)
  replace h0 : ad15 0 = q := (h9 0 (by omega)).trans h0
  have X15 : zCx p s m args meth c cX4_init 1 RX4 none D tys 16 ad15 A := Xn
  refine z_cong9 (N9 := 16) (cells9 := 15) (slots9 := 116502) (ad9 := ad15) (g9 := lM cI 15 ad15) rfl rfl rfl (fun _ _ => rfl) (fun k hk => lM_step h9 rfl (by decide) k hk) ?_
  clear h9 Xn X14
  refine z_aload_n X15 0 rfl rfl dX4_init_137 ?_
  refine z_bipush X15 (n := 98) (by decide) dX4_init_138 ?_
  refine z_mkI X15 hnm (C := RX4) (T := TX4) (NF := 21) (ci := 6) zinX4 tyX4 tyX4_ok nmX4 rfl (fs := fM 15 ad15) 19 (by decide) (ref := "TowerFieldsModel") zw690 rfl rfl rfl (ty := .array .int) (by decide +kernel) (fun _ => rfl) (fun _ => rfl) (by omega) lM_0 (by rw [fM_len]; decide) h0 0 hI (n := 98) (n9 := zLn 16) (by omega) (by omega) rfl (by decide) (by decide) (by decide) dX4_init_140 dX4_init_142 (fun ad16 h9 Xn => ?_)
  replace h0 : ad16 0 = q := (h9 0 (by omega)).trans h0
  have X16 : zCx p s m args meth c cX4_init 1 RX4 none D tys 17 ad16 A := Xn
  refine z_cong9 (N9 := 17) (cells9 := 16) (slots9 := 116600) (ad9 := ad16) (g9 := lM cI 16 ad16) rfl rfl rfl (fun _ _ => rfl) (fun k hk => lM_step h9 rfl (by decide) k hk) ?_
  clear h9 Xn X15
  refine z_aload_n X16 0 rfl rfl dX4_init_145 ?_
  refine z_sipush X16 (n := 880) (by decide) dX4_init_146 ?_
  refine z_mkI X16 hnm (C := RX4) (T := TX4) (NF := 21) (ci := 6) zinX4 tyX4 tyX4_ok nmX4 rfl (fs := fM 16 ad16) 20 (by decide) (ref := "TowerFieldsModel") zw691 rfl rfl rfl (ty := .array .int) (by decide +kernel) (fun _ => rfl) (fun _ => rfl) (by omega) lM_0 (by rw [fM_len]; decide) h0 0 hI (n := 880) (n9 := zLn 17) (by omega) (by omega) rfl (by decide) (by decide) (by decide) dX4_init_149 dX4_init_151 (fun ad17 h9 Xn => ?_)
  replace h0 : ad17 0 = q := (h9 0 (by omega)).trans h0
  have X17 : zCx p s m args meth c cX4_init 1 RX4 none D tys 18 ad17 A := Xn
  refine z_cong9 (N9 := 18) (cells9 := 17) (slots9 := 117480) (ad9 := ad17) (g9 := lM cI 17 ad17) rfl rfl rfl (fun _ _ => rfl) (fun k hk => lM_step h9 rfl (by decide) k hk) ?_
  clear h9 Xn X16
  exact fin () (by decide) (by decide) X17 h0 (fun j hj => gM_0 j hj) trivial dX4_init_154
theorem zM0_at {U V : Type} [Lean.Grind.CommRing U] [Lean.Grind.CommRing V] {cu : U → Nat → FP} {ca : V → Nat → U} (HU : mp_P cu) (HA : mp_P ca) (EL : Int → V × V) (W sD : V) : zGm cu ca EL 0 0 W sD 0 zM0 := by
  refine ⟨⟨fun _ => 0, _, ⟨⟨fun x _ => ⟨fun j _ => ?_, ?_⟩, rfl⟩, fun x _ => ⟨?_, ?_⟩⟩, ⟨by show (0 : Int) ≤ 0; omega, by show (0 : Int) ≤ 120; omega, fun n h1 h2 => ?_⟩, rfl, rfl, rfl, fun h => absurd rfl h⟩, fun h => absurd rfl h, by omega⟩
  · show (0 : FP) = cu (mk_K cu ca 0) j
    rw [mk_0 HU HA, mp_zero HU]
  · show mp_sz cu (mk_K cu ca 0) ≤ 880
    rw [mk_0 HU HA]
    exact mp_sz_le HU (fun n _ => mp_zero HU n)
  · exact mp_sz_le HA (fun n _ => mp_zero HA n)
  · exact (mp_xz_le HU HA (fun n => by rw [mp_zero HA]; exact mp_sz_le HU (fun n _ => mp_zero HU n)))
  · exact absurd (show n < 0 from h2) (by omega)
