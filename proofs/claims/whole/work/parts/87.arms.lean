/-! the law's arms -/
theorem xb (x : Int32) : -2147483648 ≤ x.toInt ∧ x.toInt < 2147483648 := by
  have h1 := Int32.le_toInt x
  have h2 := Int32.toInt_lt x
  omega
theorem xb64 (x : Int64) : -9223372036854775808 ≤ x.toInt ∧ x.toInt < 9223372036854775808 := by
  have h1 := Int64.le_toInt x
  have h2 := Int64.toInt_lt x
  omega
theorem xc_rng (L : List String) (E : String) : 0 ≤ xc L E ∧ xc L E ≤ L.length := by
  induction L with
  | nil => exact ⟨by show (0 : Int) ≤ 0; omega, by show (0 : Int) ≤ 0; omega⟩
  | cons a t ih =>
    show 0 ≤ (if E = a then 1 else 1 + xc t E) ∧ (if E = a then 1 else 1 + xc t E) ≤ ((t.length + 1 : Nat) : Int)
    split
    · omega
    · omega
section LW
variable {p : Program} {l : Launch} {e : Env} {R : Room} {s : State} {m : MethodId} {args : Array Value} {below : List Frame} {meth : Method} {c : Code} {cc : ByteArray} {nL : Nat} {own : String} {ret : Option FieldType} {D : va_G} {tys : List (ClassId × FieldType)} {N : Nat} {ad : Nat → Nat} {A : Nat → Prop} {cells slots : Nat} {Q : State → Prop} {pc : Nat} {lv : List (Nat × Value)} {st : List Value} {g : Nat → va_E}
theorem z_sld {b L : Nat} {xs : Nat → Int32} (X : zCx p s m args meth c cc nL own ret D tys N ad A) (hX : va_X b L xs s s.heap) (hbl : b < s.heap.size) (hbA : ¬ A b) {i : Int} (h0 : 0 ≤ i) (h1 : i < L) (hL : L ≤ 320) (hd : decode cc pc = .ok (.iaload, 1)) (k : Z p l e R s m args below meth c nL D N ad A cells slots Q (pc + 1) lv (.int (iZ (xs i.toNat).toInt) :: st) g) : Z p l e R s m args below meth c nL D N ad A cells slots Q pc lv (.int (iZ i) :: .ref b :: st) g := fun H locs ls hl hP hS =>
  va_sld (zx_e X) (zx_b X) hX hbl hbA hS (iZ_in h0 h1 (by omega)) hd (by rw [iZ_clamp h0 (by omega), ← iZ_of (xs i.toNat)]; exact k H locs ls hl hP hS)
theorem z_slen {b L : Nat} {xs : Nat → Int32} (X : zCx p s m args meth c cc nL own ret D tys N ad A) (hX : va_X b L xs s s.heap) (hbl : b < s.heap.size) (hbA : ¬ A b) (hd : decode cc pc = .ok (.arraylength, 1)) (k : Z p l e R s m args below meth c nL D N ad A cells slots Q (pc + 1) lv (.int (iZ (L : Int)) :: st) g) : Z p l e R s m args below meth c nL D N ad A cells slots Q pc lv (.ref b :: st) g := fun H locs ls hl hP hS =>
  va_slen (zx_e X) (zx_b X) hX hbl hbA hS hd (k H locs ls hl hP hS)
theorem z_lshl (X : zCx p s m args meth c cc nL own ret D tys N ad A) {x : Int64} {y : Int32} (hd : decode cc pc = .ok (.lshl, 1)) (k : Z p l e R s m args below meth c nL D N ad A cells slots Q (pc + 1) lv (.long (x <<< (y.toInt64 &&& 63)) :: st) g) : Z p l e R s m args below meth c nL D N ad A cells slots Q pc lv (.int y :: .long x :: st) g := fun H locs ls hl hP hS => lv_lshl (zx_e X) (zx_b X) hd rfl (k H locs ls hl hP hS)
theorem z_land (X : zCx p s m args meth c cc nL own ret D tys N ad A) {x y : Int64} (hd : decode cc pc = .ok (.land, 1)) (k : Z p l e R s m args below meth c nL D N ad A cells slots Q (pc + 1) lv (.long (x &&& y) :: st) g) : Z p l e R s m args below meth c nL D N ad A cells slots Q pc lv (.long y :: .long x :: st) g := fun H locs ls hl hP hS => lv_land (zx_e X) (zx_b X) hd (k H locs ls hl hP hS)
theorem z_lor (X : zCx p s m args meth c cc nL own ret D tys N ad A) {x y : Int64} (hd : decode cc pc = .ok (.lor, 1)) (k : Z p l e R s m args below meth c nL D N ad A cells slots Q (pc + 1) lv (.long (x ||| y) :: st) g) : Z p l e R s m args below meth c nL D N ad A cells slots Q pc lv (.long y :: .long x :: st) g := fun H locs ls hl hP hS => lv_lor (zx_e X) (zx_b X) hd (k H locs ls hl hP hS)
theorem z_iandq (X : zCx p s m args meth c cc nL own ret D tys N ad A) {x y : Int32} (hd : decode cc pc = .ok (.iand, 1)) (k : Z p l e R s m args below meth c nL D N ad A cells slots Q (pc + 1) lv (.int (x &&& y) :: st) g) : Z p l e R s m args below meth c nL D N ad A cells slots Q pc lv (.int y :: .int x :: st) g := fun H locs ls hl hP hS => lv_iand (zx_e X) (zx_b X) hd (k H locs ls hl hP hS)
end LW
theorem lZ_cc {a b : Int64} {z : Int} (h : (z = 1 ∧ b.toInt < a.toInt) ∨ (z = 0 ∧ a.toInt = b.toInt) ∨ (z = -1 ∧ a.toInt < b.toInt)) (e : a = b) : z = 0 := by
  subst e
  omega
theorem ag_01 {P : Prop} : (@ite Int P (Classical.propDecidable _) 1 0) = 0 ∨ (@ite Int P (Classical.propDecidable _) 1 0) = 1 := by
  by_cases h : P
  · exact Or.inr (if_pos h)
  · exact Or.inl (if_neg h)
theorem a_number {U V : Type} [Lean.Grind.CommRing U] [Lean.Grind.CommRing V] {cu : U → Nat → FP} {ca : V → Nat → U} (HU : mp_P cu) (HA : mp_P ca) {p : Program} {l : Launch} (hl9 : l.stackTraces = false) {e : Env} {R : Room} {s : State} {m : MethodId} {args : Array Value} {below : List Frame} {meth : Method} {c : Code} {D : va_G} {ad sa : Nat → Nat} {A : Nat → Prop} {Q : State → Prop} {cI cO cJ : ClassId} (X : zCx p s m args meth c cL_law 7 RL (some .boolean) D (zTy3 cI cO cJ) 438 ad A) (XX : zX A sa s) (XL : zLx s) {b L : Nat} {xs : Nat → Int32} (hX : va_X b L xs s s.heap) (hbl : b < s.heap.size) (hbA : ¬ A b) (hL : L ≤ 320) {i : Int} (i0 : 0 ≤ i) (iL : i + 5 ≤ L) {cells slots : Nat} (hR : cells + 4 ≤ R.cells ∧ slots + 24 ≤ R.slots ∧ 12 ≤ R.frames ∧ 1000 ≤ R.locals) {S : zS} {M : zM} {f : Nat → Int64} (hA : zAg cu ca S M) (nxt : ∀ (S9 : zS) (M9 : zM) (f9 : Nat → Int64) (cells9 slots9 : Nat), zAg cu ca S9 M9 → cells9 ≤ cells + 4 → slots9 ≤ slots + 24 → Z p l e R s m args below meth c 7 D 438 ad A cells9 slots9 Q 1234 [(4, .int (iZ i)), (3, .ref (ad 437)), (2, .ref (ad 419)), (1, .ref (ad 0)), (0, .ref b)] [] (gL ad cI cO cJ S9 M9 f9)) : Z p l e R s m args below meth c 7 D 438 ad A cells slots Q 120 [(4, .int (iZ i)), (3, .ref (ad 437)), (2, .ref (ad 419)), (1, .ref (ad 0)), (0, .ref b)] [] (gL ad cI cO cJ S M f) := by
  obtain ⟨EL, md, kd, sA, sB, W, sD, cd, hC, hG, hJ⟩ := id hA
  have hmd := zC_md hC
  refine z_aload_n X 3 rfl rfl dL_law_120 ?_
  refine z_aload_n X 4 rfl rfl dL_law_121 ?_
  refine z_iload X 0 rfl dL_law_122 ?_
  refine z_iconst X (n := 1) dL_law_124 ?_
  refine z_iadd X dL_law_125 ?_
  refine z_sld X hX hbl hbA (by omega) (by omega) hL dL_law_126 ?_
  refine z_i2l X (xb _).1 (xb _).2 dL_law_127 ?_
  refine z_bipush X (n := 32) (by decide) dL_law_128 ?_
  refine z_lshl X dL_law_130 ?_
  refine z_aload_n X 4 rfl rfl dL_law_131 ?_
  refine z_iload X 0 rfl dL_law_132 ?_
  refine z_iconst X (n := 2) dL_law_134 ?_
  refine z_iadd X dL_law_135 ?_
  refine z_sld X hX hbl hbA (by omega) (by omega) hL dL_law_136 ?_
  refine z_i2l X (xb _).1 (xb _).2 dL_law_137 ?_
  refine z_ldc2 X zw916 dL_law_138 ?_
  refine z_land X dL_law_141 ?_
  refine z_lor X dL_law_142 ?_
  refine z_aload_n X 4 rfl rfl dL_law_143 ?_
  refine z_iload X 0 rfl dL_law_144 ?_
  refine z_iconst X (n := 3) dL_law_146 ?_
  refine z_iadd X dL_law_147 ?_
  refine z_sld X hX hbl hbA (by omega) (by omega) hL dL_law_148 ?_
  refine z_i2l X (xb _).1 (xb _).2 dL_law_149 ?_
  refine z_bipush X (n := 32) (by decide) dL_law_150 ?_
  refine z_lshl X dL_law_152 ?_
  refine z_aload_n X 4 rfl rfl dL_law_153 ?_
  refine z_iload X 0 rfl dL_law_154 ?_
  refine z_iconst X (n := 4) dL_law_156 ?_
  refine z_iadd X dL_law_157 ?_
  refine z_sld X hX hbl hbA (by omega) (by omega) hL dL_law_158 ?_
  refine z_i2l X (xb _).1 (xb _).2 dL_law_159 ?_
  refine z_ldc2 X zw916 dL_law_160 ?_
  refine z_land X dL_law_163 ?_
  refine z_lor X dL_law_164 ?_
  refine z_aload_n X 1 rfl rfl dL_law_165 ?_
  generalize hn0 : (((lZ (xs (i + 1).toNat).toInt) <<< ((iZ 32).toInt64 &&& 63)) ||| ((lZ (xs (i + 2).toNat).toInt) &&& ((4294967295 : Int64)))).toInt = n0
  obtain ⟨n0, e0⟩ : ∃ n0 : Int, n0 = (((lZ (xs (i + 1).toNat).toInt) <<< ((iZ 32).toInt64 &&& 63)) ||| ((lZ (xs (i + 2).toNat).toInt) &&& ((4294967295 : Int64)))).toInt := ⟨_, rfl⟩
  obtain ⟨n1, e1⟩ : ∃ n1 : Int, n1 = (((lZ (xs (i + 3).toNat).toInt) <<< ((iZ 32).toInt64 &&& 63)) ||| ((lZ (xs (i + 4).toNat).toInt) &&& ((4294967295 : Int64)))).toInt := ⟨_, rfl⟩
  have b0 := xb64 (((lZ (xs (i + 1).toNat).toInt) <<< ((iZ 32).toInt64 &&& 63)) ||| ((lZ (xs (i + 2).toNat).toInt) &&& ((4294967295 : Int64))))
  have b1 := xb64 (((lZ (xs (i + 3).toNat).toInt) <<< ((iZ 32).toInt64 &&& 63)) ||| ((lZ (xs (i + 4).toNat).toInt) &&& ((4294967295 : Int64))))
  rw [← e0] at b0
  rw [← e1] at b1
  refine z_stq (st9 := [.ref (ad 437), .long (lZ n1), .long (lZ n0), .ref (ad 0)]) (by rw [e0, e1, lZ_of, lZ_of]) ?_
  refine z_callL X XX XL (n' := 4) (maxL' := 7) (hh := [(0, 11, 14, 13), (0, 11, 18, 15)]) (List.mem_of_getElem? (i := 0) rfl) zw0 ⟨by decide +kernel, by decide +kernel⟩ (by decide +kernel) zw171 zw170 ⟨by omega, by omega, by omega, by omega⟩ [.ref (ad 0), .long (lZ n0), .long (lZ n1), .ref (ad 437)] (w_number l M f (c_X3_number HU HA l hl9 hC b0.1 b0.2 b1.1 b1.2) (fun z u h => by rcases h with ⟨h1, h2, _⟩ <;> omega) (fun E u h => by rcases h.2 with ⟨h, -⟩ | ⟨h, -⟩ <;> simp [h])) rfl rfl (Nat.le_of_ble_eq_true rfl) dL_law_166 (fun r u hw => ?_)
  refine z_istore X [(5, .int (iZ r)), (4, .int (iZ i)), (3, .ref (ad 437)), (2, .ref (ad 419)), (1, .ref (ad 0)), (0, .ref b)] rfl (by decide) dL_law_169 ?_
  refine z_aload_n X 3 rfl rfl dL_law_171 ?_
  refine z_aload_n X 5 rfl rfl dL_law_172 ?_
  refine z_iload X 1 rfl dL_law_173 ?_
  refine z_iconst X (n := 1) dL_law_175 ?_
  refine z_iadd X dL_law_176 ?_
  refine z_sld X hX hbl hbA (by omega) (by omega) hL dL_law_177 ?_
  refine z_i2l X (xb _).1 (xb _).2 dL_law_178 ?_
  refine z_bipush X (n := 32) (by decide) dL_law_179 ?_
  refine z_lshl X dL_law_181 ?_
  refine z_aload_n X 5 rfl rfl dL_law_182 ?_
  refine z_iload X 1 rfl dL_law_183 ?_
  refine z_iconst X (n := 2) dL_law_185 ?_
  refine z_iadd X dL_law_186 ?_
  refine z_sld X hX hbl hbA (by omega) (by omega) hL dL_law_187 ?_
  refine z_i2l X (xb _).1 (xb _).2 dL_law_188 ?_
  refine z_ldc2 X zw916 dL_law_189 ?_
  refine z_land X dL_law_192 ?_
  refine z_lor X dL_law_193 ?_
  refine z_aload_n X 5 rfl rfl dL_law_194 ?_
  refine z_iload X 1 rfl dL_law_195 ?_
  refine z_iconst X (n := 3) dL_law_197 ?_
  refine z_iadd X dL_law_198 ?_
  refine z_sld X hX hbl hbA (by omega) (by omega) hL dL_law_199 ?_
  refine z_i2l X (xb _).1 (xb _).2 dL_law_200 ?_
  refine z_bipush X (n := 32) (by decide) dL_law_201 ?_
  refine z_lshl X dL_law_203 ?_
  refine z_aload_n X 5 rfl rfl dL_law_204 ?_
  refine z_iload X 1 rfl dL_law_205 ?_
  refine z_iconst X (n := 4) dL_law_207 ?_
  refine z_iadd X dL_law_208 ?_
  refine z_sld X hX hbl hbA (by omega) (by omega) hL dL_law_209 ?_
  refine z_i2l X (xb _).1 (xb _).2 dL_law_210 ?_
  refine z_ldc2 X zw916 dL_law_211 ?_
  refine z_land X dL_law_214 ?_
  refine z_lor X dL_law_215 ?_
  refine z_stq (st9 := [.long (lZ n1), .long (lZ n0), .ref (ad 419)]) (by rw [e0, e1, lZ_of, lZ_of]) ?_
  refine z_callVi X zm_X4_number zw740 zw741 zw739 ⟨by omega, by omega, by omega, by omega⟩ [.long (lZ n0), .long (lZ n1)] (zMi_LM (F := fun w => w) (c_X4_number HU HA l hG b0.1 b0.2 b1.1 b1.2)) rfl rfl (Nat.le_of_ble_eq_true rfl) (by omega) ((gL_M (k := 0) (by omega)).trans gM_O) (q := vwCl[6]) rfl rfl dL_law_216 (fun zr v hm => ?_)
  refine z_istore X [(6, .int (iZ zr)), (5, .int (iZ r)), (4, .int (iZ i)), (3, .ref (ad 437)), (2, .ref (ad 419)), (1, .ref (ad 0)), (0, .ref b)] rfl (by decide) dL_law_219 ?_
  have ag := ag_number HU HA hC hJ  hw hm
  have hr : 0 ≤ r ∧ r ≤ 3 := by
    rcases hw with ⟨h, -⟩ | ⟨E, -, h⟩
    · omega
    · have := xc_rng ["java/lang/IllegalStateException", "java/lang/ArithmeticException"] E
      rw [← h] at this
      have h9 : ((["java/lang/IllegalStateException", "java/lang/ArithmeticException"] : List String).length : Int) ≤ 3 := by decide
      omega
  obtain ⟨hA9, hcd, hres⟩ := ag
  refine z_aload_n X 4 rfl rfl dL_law_221 ?_
  refine z_callVi X zm_X4_thrown zw736 zw737 zw735 ⟨by omega, by omega, by omega, by omega⟩ [] (zMi_LM (F := fun _ : Unit => v) (c_X4_thrown l v hcd)) rfl rfl (Nat.le_of_ble_eq_true rfl) (by omega) ((gL_M (k := 0) (by omega)).trans gM_O) (q := vwCl[6]) rfl rfl dL_law_222 (fun zt _ ht => ?_)
  rw [show zt = r from ht]
  refine z_iload X 1 rfl dL_law_225 ?_
  refine z_icmp_eq X (tgt := 232) (by omega) (by omega) dL_law_227 (by decide) (fun _ => ?_) (fun h9 => absurd rfl h9)
  refine z_iload X 1 rfl dL_law_232 ?_
  refine z_if_ne X (tgt := 249) (by omega) dL_law_234 (by decide) (fun _ => ?_) (fun h9 => ?_)
  · refine z_goto X (tgt := 1234) dL_law_249 (by decide) ?_
    exact z_sub [2, 3, 4, 5, 6] rfl (nxt u.1 v u.2 _ _ hA9 (by omega) (by omega))
  · have h8 : r = 0 := by omega
    obtain ⟨ho, hz1, hz2⟩ := hres h8
    refine z_aload_n X 3 rfl rfl dL_law_237 ?_
    refine z_iconst X (n := 0) dL_law_238 ?_
    refine z_lald X 437 2 (by omega) gL_f rfl (by omega) (by omega) (by omega) dL_law_239 ?_
    refine z_stq (st9 := [.long (lZ zr)]) (by rw [← ho]; rfl) ?_
    refine z_iload X 0 rfl dL_law_240 ?_
    refine z_i2l X hz1 hz2 dL_law_242 ?_
    refine z_lcmp X (by omega) (by omega) dL_law_243 (fun z hz => ?_)
    have z0 : z = 0 := by omega
    refine z_if_eq X (tgt := 249) (by omega) dL_law_244 (by decide) (fun _ => ?_) (fun h7 => absurd z0 h7)
    refine z_goto X (tgt := 1234) dL_law_249 (by decide) ?_
    exact z_sub [2, 3, 4, 5, 6] rfl (nxt u.1 v u.2 _ _ hA9 (by omega) (by omega))
theorem a_base {U V : Type} [Lean.Grind.CommRing U] [Lean.Grind.CommRing V] {cu : U → Nat → FP} {ca : V → Nat → U} (HU : mp_P cu) (HA : mp_P ca) {p : Program} {l : Launch} (hl9 : l.stackTraces = false) {e : Env} {R : Room} {s : State} {m : MethodId} {args : Array Value} {below : List Frame} {meth : Method} {c : Code} {D : va_G} {ad sa : Nat → Nat} {A : Nat → Prop} {Q : State → Prop} {cI cO cJ : ClassId} (X : zCx p s m args meth c cL_law 7 RL (some .boolean) D (zTy3 cI cO cJ) 438 ad A) (XX : zX A sa s) (XL : zLx s) {b L : Nat} {xs : Nat → Int32} (hX : va_X b L xs s s.heap) (hbl : b < s.heap.size) (hbA : ¬ A b) (hL : L ≤ 320) {i : Int} (i0 : 0 ≤ i) (iL : i + 5 ≤ L) {cells slots : Nat} (hR : cells + 4 ≤ R.cells ∧ slots + 24 ≤ R.slots ∧ 12 ≤ R.frames ∧ 1000 ≤ R.locals) {S : zS} {M : zM} {f : Nat → Int64} (hA : zAg cu ca S M) (nxt : ∀ (S9 : zS) (M9 : zM) (f9 : Nat → Int64) (cells9 slots9 : Nat), zAg cu ca S9 M9 → cells9 ≤ cells + 4 → slots9 ≤ slots + 24 → Z p l e R s m args below meth c 7 D 438 ad A cells9 slots9 Q 1234 [(4, .int (iZ i)), (3, .ref (ad 437)), (2, .ref (ad 419)), (1, .ref (ad 0)), (0, .ref b)] [] (gL ad cI cO cJ S9 M9 f9)) : Z p l e R s m args below meth c 7 D 438 ad A cells slots Q 252 [(4, .int (iZ i)), (3, .ref (ad 437)), (2, .ref (ad 419)), (1, .ref (ad 0)), (0, .ref b)] [] (gL ad cI cO cJ S M f) := by
  obtain ⟨EL, md, kd, sA, sB, W, sD, cd, hC, hG, hJ⟩ := id hA
  have hmd := zC_md hC
  refine z_aload_n X 3 rfl rfl dL_law_252 ?_
  refine z_aload_n X 1 rfl rfl dL_law_253 ?_
  refine z_callL X XX XL (n' := 2) (maxL' := 3) (hh := [(0, 8, 11, 13)]) (List.mem_of_getElem? (i := 1) rfl) zw0 ⟨by decide +kernel, by decide +kernel⟩ (by decide +kernel) zw309 zw308 ⟨by omega, by omega, by omega, by omega⟩ [.ref (ad 0), .ref (ad 437)] (w_base l M f (c_X3_base HU HA l hl9 hC) (fun z u h => by rcases h with ⟨h1, h2, _⟩ <;> omega) (fun E u h => h.2.1)) rfl rfl (Nat.le_of_ble_eq_true rfl) dL_law_254 (fun r u hw => ?_)
  refine z_istore X [(5, .int (iZ r)), (4, .int (iZ i)), (3, .ref (ad 437)), (2, .ref (ad 419)), (1, .ref (ad 0)), (0, .ref b)] rfl (by decide) dL_law_257 ?_
  refine z_aload_n X 3 rfl rfl dL_law_259 ?_
  refine z_callVi X zm_X4_base zw762 zw763 zw761 ⟨by omega, by omega, by omega, by omega⟩ [] (zMi_LM (F := fun w => w) (c_X4_base HU HA l hG)) rfl rfl (Nat.le_of_ble_eq_true rfl) (by omega) ((gL_M (k := 0) (by omega)).trans gM_O) (q := vwCl[6]) rfl rfl dL_law_260 (fun zr v hm => ?_)
  refine z_istore X [(6, .int (iZ zr)), (5, .int (iZ r)), (4, .int (iZ i)), (3, .ref (ad 437)), (2, .ref (ad 419)), (1, .ref (ad 0)), (0, .ref b)] rfl (by decide) dL_law_263 ?_
  have ag := ag_base HU HA hC hJ  hw hm
  have hr : 0 ≤ r ∧ r ≤ 3 := by
    rcases hw with ⟨h, -⟩ | ⟨E, -, h⟩
    · omega
    · have := xc_rng ["java/lang/IllegalStateException"] E
      rw [← h] at this
      have h9 : ((["java/lang/IllegalStateException"] : List String).length : Int) ≤ 3 := by decide
      omega
  obtain ⟨hA9, hcd, hres⟩ := ag
  refine z_aload_n X 4 rfl rfl dL_law_265 ?_
  refine z_callVi X zm_X4_thrown zw736 zw737 zw735 ⟨by omega, by omega, by omega, by omega⟩ [] (zMi_LM (F := fun _ : Unit => v) (c_X4_thrown l v hcd)) rfl rfl (Nat.le_of_ble_eq_true rfl) (by omega) ((gL_M (k := 0) (by omega)).trans gM_O) (q := vwCl[6]) rfl rfl dL_law_266 (fun zt _ ht => ?_)
  rw [show zt = r from ht]
  refine z_iload X 1 rfl dL_law_269 ?_
  refine z_icmp_eq X (tgt := 276) (by omega) (by omega) dL_law_271 (by decide) (fun _ => ?_) (fun h9 => absurd rfl h9)
  refine z_iload X 1 rfl dL_law_276 ?_
  refine z_if_ne X (tgt := 293) (by omega) dL_law_278 (by decide) (fun _ => ?_) (fun h9 => ?_)
  · refine z_goto X (tgt := 1234) dL_law_293 (by decide) ?_
    exact z_sub [2, 3, 4, 5, 6] rfl (nxt u.1 v u.2 _ _ hA9 (by omega) (by omega))
  · have h8 : r = 0 := by omega
    obtain ⟨ho, hz1, hz2⟩ := hres h8
    refine z_aload_n X 3 rfl rfl dL_law_281 ?_
    refine z_iconst X (n := 0) dL_law_282 ?_
    refine z_lald X 437 2 (by omega) gL_f rfl (by omega) (by omega) (by omega) dL_law_283 ?_
    refine z_stq (st9 := [.long (lZ zr)]) (by rw [← ho]; rfl) ?_
    refine z_iload X 0 rfl dL_law_284 ?_
    refine z_i2l X hz1 hz2 dL_law_286 ?_
    refine z_lcmp X (by omega) (by omega) dL_law_287 (fun z hz => ?_)
    have z0 : z = 0 := by omega
    refine z_if_eq X (tgt := 293) (by omega) dL_law_288 (by decide) (fun _ => ?_) (fun h7 => absurd z0 h7)
    refine z_goto X (tgt := 1234) dL_law_293 (by decide) ?_
    exact z_sub [2, 3, 4, 5, 6] rfl (nxt u.1 v u.2 _ _ hA9 (by omega) (by omega))
theorem a_letter {U V : Type} [Lean.Grind.CommRing U] [Lean.Grind.CommRing V] {cu : U → Nat → FP} {ca : V → Nat → U} (HU : mp_P cu) (HA : mp_P ca) {p : Program} {l : Launch} (hl9 : l.stackTraces = false) {e : Env} {R : Room} {s : State} {m : MethodId} {args : Array Value} {below : List Frame} {meth : Method} {c : Code} {D : va_G} {ad sa : Nat → Nat} {A : Nat → Prop} {Q : State → Prop} {cI cO cJ : ClassId} (X : zCx p s m args meth c cL_law 7 RL (some .boolean) D (zTy3 cI cO cJ) 438 ad A) (XX : zX A sa s) (XL : zLx s) {b L : Nat} {xs : Nat → Int32} (hX : va_X b L xs s s.heap) (hbl : b < s.heap.size) (hbA : ¬ A b) (hL : L ≤ 320) {i : Int} (i0 : 0 ≤ i) (iL : i + 5 ≤ L) {cells slots : Nat} (hR : cells + 4 ≤ R.cells ∧ slots + 24 ≤ R.slots ∧ 12 ≤ R.frames ∧ 1000 ≤ R.locals) {S : zS} {M : zM} {f : Nat → Int64} (hA : zAg cu ca S M) (nxt : ∀ (S9 : zS) (M9 : zM) (f9 : Nat → Int64) (cells9 slots9 : Nat), zAg cu ca S9 M9 → cells9 ≤ cells + 4 → slots9 ≤ slots + 24 → Z p l e R s m args below meth c 7 D 438 ad A cells9 slots9 Q 1234 [(4, .int (iZ i)), (3, .ref (ad 437)), (2, .ref (ad 419)), (1, .ref (ad 0)), (0, .ref b)] [] (gL ad cI cO cJ S9 M9 f9)) : Z p l e R s m args below meth c 7 D 438 ad A cells slots Q 296 [(4, .int (iZ i)), (3, .ref (ad 437)), (2, .ref (ad 419)), (1, .ref (ad 0)), (0, .ref b)] [] (gL ad cI cO cJ S M f) := by
  obtain ⟨EL, md, kd, sA, sB, W, sD, cd, hC, hG, hJ⟩ := id hA
  have hmd := zC_md hC
  refine z_aload_n X 3 rfl rfl dL_law_296 ?_
  refine z_aload_n X 4 rfl rfl dL_law_297 ?_
  refine z_iload X 0 rfl dL_law_298 ?_
  refine z_iconst X (n := 1) dL_law_300 ?_
  refine z_iadd X dL_law_301 ?_
  refine z_sld X hX hbl hbA (by omega) (by omega) hL dL_law_302 ?_
  refine z_aload_n X 4 rfl rfl dL_law_303 ?_
  refine z_iload X 0 rfl dL_law_304 ?_
  refine z_iconst X (n := 2) dL_law_306 ?_
  refine z_iadd X dL_law_307 ?_
  refine z_sld X hX hbl hbA (by omega) (by omega) hL dL_law_308 ?_
  refine z_aload_n X 1 rfl rfl dL_law_309 ?_
  refine z_callL X XX XL (n' := 4) (maxL' := 5) (hh := [(0, 10, 13, 25), (0, 10, 17, 13), (0, 10, 21, 27)]) (List.mem_of_getElem? (i := 2) rfl) zw0 ⟨by decide +kernel, by decide +kernel⟩ (by decide +kernel) zw316 zw315 ⟨by omega, by omega, by omega, by omega⟩ [.ref (ad 0), .int (iZ (xs (i + 1).toNat).toInt), .int (iZ (xs (i + 2).toNat).toInt), .ref (ad 437)] (w_letter l M f (c_X3_letter HU HA l hl9 hC hJ.1 (xb _) (xb _)) (fun z u h => by rcases h with ⟨_, _, _, _, _, h1, _⟩ <;> omega) (fun E u h => by rcases h.2 with ⟨h, -⟩ | ⟨h, -⟩ | ⟨h, -⟩ <;> simp [h])) rfl rfl (Nat.le_of_ble_eq_true rfl) dL_law_310 (fun r u hw => ?_)
  refine z_istore X [(5, .int (iZ r)), (4, .int (iZ i)), (3, .ref (ad 437)), (2, .ref (ad 419)), (1, .ref (ad 0)), (0, .ref b)] rfl (by decide) dL_law_313 ?_
  refine z_aload_n X 3 rfl rfl dL_law_315 ?_
  refine z_aload_n X 5 rfl rfl dL_law_316 ?_
  refine z_iload X 1 rfl dL_law_317 ?_
  refine z_iconst X (n := 1) dL_law_319 ?_
  refine z_iadd X dL_law_320 ?_
  refine z_sld X hX hbl hbA (by omega) (by omega) hL dL_law_321 ?_
  refine z_aload_n X 5 rfl rfl dL_law_322 ?_
  refine z_iload X 1 rfl dL_law_323 ?_
  refine z_iconst X (n := 2) dL_law_325 ?_
  refine z_iadd X dL_law_326 ?_
  refine z_sld X hX hbl hbA (by omega) (by omega) hL dL_law_327 ?_
  refine z_callVi X zm_X4_letter zw766 zw767 zw765 ⟨by omega, by omega, by omega, by omega⟩ [.int (iZ (xs (i + 1).toNat).toInt), .int (iZ (xs (i + 2).toNat).toInt)] (zMi_LM (F := fun w => w) (c_X4_letter HU HA l hG (fun n h0 h1 => zNf_ne HU HA (zC_nf hC h0 h1)) (xb _) (xb _))) rfl rfl (Nat.le_of_ble_eq_true rfl) (by omega) ((gL_M (k := 0) (by omega)).trans gM_O) (q := vwCl[6]) rfl rfl dL_law_328 (fun zr v hm => ?_)
  refine z_istore X [(6, .int (iZ zr)), (5, .int (iZ r)), (4, .int (iZ i)), (3, .ref (ad 437)), (2, .ref (ad 419)), (1, .ref (ad 0)), (0, .ref b)] rfl (by decide) dL_law_331 ?_
  have ag := ag_letter HU HA hC hJ (xb _) (xb _) hw hm
  have hr : 0 ≤ r ∧ r ≤ 3 := by
    rcases hw with ⟨h, -⟩ | ⟨E, -, h⟩
    · omega
    · have := xc_rng ["java/lang/IndexOutOfBoundsException", "java/lang/IllegalStateException", "java/lang/IllegalArgumentException"] E
      rw [← h] at this
      have h9 : ((["java/lang/IndexOutOfBoundsException", "java/lang/IllegalStateException", "java/lang/IllegalArgumentException"] : List String).length : Int) ≤ 3 := by decide
      omega
  obtain ⟨hA9, hcd, hres⟩ := ag
  refine z_aload_n X 4 rfl rfl dL_law_333 ?_
  refine z_callVi X zm_X4_thrown zw736 zw737 zw735 ⟨by omega, by omega, by omega, by omega⟩ [] (zMi_LM (F := fun _ : Unit => v) (c_X4_thrown l v hcd)) rfl rfl (Nat.le_of_ble_eq_true rfl) (by omega) ((gL_M (k := 0) (by omega)).trans gM_O) (q := vwCl[6]) rfl rfl dL_law_334 (fun zt _ ht => ?_)
  rw [show zt = r from ht]
  refine z_iload X 1 rfl dL_law_337 ?_
  refine z_icmp_eq X (tgt := 344) (by omega) (by omega) dL_law_339 (by decide) (fun _ => ?_) (fun h9 => absurd rfl h9)
  refine z_iload X 1 rfl dL_law_344 ?_
  refine z_if_ne X (tgt := 361) (by omega) dL_law_346 (by decide) (fun _ => ?_) (fun h9 => ?_)
  · refine z_goto X (tgt := 1234) dL_law_361 (by decide) ?_
    exact z_sub [2, 3, 4, 5, 6] rfl (nxt u.1 v u.2 _ _ hA9 (by omega) (by omega))
  · have h8 : r = 0 := by omega
    obtain ⟨ho, hz1, hz2⟩ := hres h8
    refine z_aload_n X 3 rfl rfl dL_law_349 ?_
    refine z_iconst X (n := 0) dL_law_350 ?_
    refine z_lald X 437 2 (by omega) gL_f rfl (by omega) (by omega) (by omega) dL_law_351 ?_
    refine z_stq (st9 := [.long (lZ zr)]) (by rw [← ho]; rfl) ?_
    refine z_iload X 0 rfl dL_law_352 ?_
    refine z_i2l X hz1 hz2 dL_law_354 ?_
    refine z_lcmp X (by omega) (by omega) dL_law_355 (fun z hz => ?_)
    have z0 : z = 0 := by omega
    refine z_if_eq X (tgt := 361) (by omega) dL_law_356 (by decide) (fun _ => ?_) (fun h7 => absurd z0 h7)
    refine z_goto X (tgt := 1234) dL_law_361 (by decide) ?_
    exact z_sub [2, 3, 4, 5, 6] rfl (nxt u.1 v u.2 _ _ hA9 (by omega) (by omega))
theorem a_top {U V : Type} [Lean.Grind.CommRing U] [Lean.Grind.CommRing V] {cu : U → Nat → FP} {ca : V → Nat → U} (HU : mp_P cu) (HA : mp_P ca) {p : Program} {l : Launch} (hl9 : l.stackTraces = false) {e : Env} {R : Room} {s : State} {m : MethodId} {args : Array Value} {below : List Frame} {meth : Method} {c : Code} {D : va_G} {ad sa : Nat → Nat} {A : Nat → Prop} {Q : State → Prop} {cI cO cJ : ClassId} (X : zCx p s m args meth c cL_law 7 RL (some .boolean) D (zTy3 cI cO cJ) 438 ad A) (XX : zX A sa s) (XL : zLx s) {b L : Nat} {xs : Nat → Int32} (hX : va_X b L xs s s.heap) (hbl : b < s.heap.size) (hbA : ¬ A b) (hL : L ≤ 320) {i : Int} (i0 : 0 ≤ i) (iL : i + 5 ≤ L) {cells slots : Nat} (hR : cells + 4 ≤ R.cells ∧ slots + 24 ≤ R.slots ∧ 12 ≤ R.frames ∧ 1000 ≤ R.locals) {S : zS} {M : zM} {f : Nat → Int64} (hA : zAg cu ca S M) (nxt : ∀ (S9 : zS) (M9 : zM) (f9 : Nat → Int64) (cells9 slots9 : Nat), zAg cu ca S9 M9 → cells9 ≤ cells + 4 → slots9 ≤ slots + 24 → Z p l e R s m args below meth c 7 D 438 ad A cells9 slots9 Q 1234 [(4, .int (iZ i)), (3, .ref (ad 437)), (2, .ref (ad 419)), (1, .ref (ad 0)), (0, .ref b)] [] (gL ad cI cO cJ S9 M9 f9)) : Z p l e R s m args below meth c 7 D 438 ad A cells slots Q 364 [(4, .int (iZ i)), (3, .ref (ad 437)), (2, .ref (ad 419)), (1, .ref (ad 0)), (0, .ref b)] [] (gL ad cI cO cJ S M f) := by
  obtain ⟨EL, md, kd, sA, sB, W, sD, cd, hC, hG, hJ⟩ := id hA
  have hmd := zC_md hC
  refine z_aload_n X 3 rfl rfl dL_law_364 ?_
  refine z_aload_n X 1 rfl rfl dL_law_365 ?_
  refine z_callL X XX XL (n' := 2) (maxL' := 3) (hh := [(0, 8, 11, 13), (0, 8, 14, 27)]) (List.mem_of_getElem? (i := 3) rfl) zw0 ⟨by decide +kernel, by decide +kernel⟩ (by decide +kernel) zw536 zw535 ⟨by omega, by omega, by omega, by omega⟩ [.ref (ad 0), .ref (ad 437)] (w_top l M f (c_X3_top HU HA l hl9 hC) (fun z u h => by rcases h with ⟨h1, h2, _⟩ <;> omega) (fun E u h => by rcases h.2 with ⟨h, -⟩ | ⟨h, -⟩ <;> simp [h])) rfl rfl (Nat.le_of_ble_eq_true rfl) dL_law_366 (fun r u hw => ?_)
  refine z_istore X [(5, .int (iZ r)), (4, .int (iZ i)), (3, .ref (ad 437)), (2, .ref (ad 419)), (1, .ref (ad 0)), (0, .ref b)] rfl (by decide) dL_law_369 ?_
  refine z_aload_n X 3 rfl rfl dL_law_371 ?_
  refine z_callVi X zm_X4_top zw825 zw826 zw824 ⟨by omega, by omega, by omega, by omega⟩ [] (zMi_LM (F := fun w => w) (c_X4_top HU HA l hG)) rfl rfl (Nat.le_of_ble_eq_true rfl) (by omega) ((gL_M (k := 0) (by omega)).trans gM_O) (q := vwCl[6]) rfl rfl dL_law_372 (fun zr v hm => ?_)
  refine z_istore X [(6, .int (iZ zr)), (5, .int (iZ r)), (4, .int (iZ i)), (3, .ref (ad 437)), (2, .ref (ad 419)), (1, .ref (ad 0)), (0, .ref b)] rfl (by decide) dL_law_375 ?_
  have ag := ag_top HU HA hC hJ  hw hm
  have hr : 0 ≤ r ∧ r ≤ 3 := by
    rcases hw with ⟨h, -⟩ | ⟨E, -, h⟩
    · omega
    · have := xc_rng ["java/lang/IllegalStateException", "java/lang/IllegalArgumentException"] E
      rw [← h] at this
      have h9 : ((["java/lang/IllegalStateException", "java/lang/IllegalArgumentException"] : List String).length : Int) ≤ 3 := by decide
      omega
  obtain ⟨hA9, hcd, hres⟩ := ag
  refine z_aload_n X 4 rfl rfl dL_law_377 ?_
  refine z_callVi X zm_X4_thrown zw736 zw737 zw735 ⟨by omega, by omega, by omega, by omega⟩ [] (zMi_LM (F := fun _ : Unit => v) (c_X4_thrown l v hcd)) rfl rfl (Nat.le_of_ble_eq_true rfl) (by omega) ((gL_M (k := 0) (by omega)).trans gM_O) (q := vwCl[6]) rfl rfl dL_law_378 (fun zt _ ht => ?_)
  rw [show zt = r from ht]
  refine z_iload X 1 rfl dL_law_381 ?_
  refine z_icmp_eq X (tgt := 388) (by omega) (by omega) dL_law_383 (by decide) (fun _ => ?_) (fun h9 => absurd rfl h9)
  refine z_iload X 1 rfl dL_law_388 ?_
  refine z_if_ne X (tgt := 405) (by omega) dL_law_390 (by decide) (fun _ => ?_) (fun h9 => ?_)
  · refine z_goto X (tgt := 1234) dL_law_405 (by decide) ?_
    exact z_sub [2, 3, 4, 5, 6] rfl (nxt u.1 v u.2 _ _ hA9 (by omega) (by omega))
  · have h8 : r = 0 := by omega
    obtain ⟨ho, hz1, hz2⟩ := hres h8
    refine z_aload_n X 3 rfl rfl dL_law_393 ?_
    refine z_iconst X (n := 0) dL_law_394 ?_
    refine z_lald X 437 2 (by omega) gL_f rfl (by omega) (by omega) (by omega) dL_law_395 ?_
    refine z_stq (st9 := [.long (lZ zr)]) (by rw [← ho]; rfl) ?_
    refine z_iload X 0 rfl dL_law_396 ?_
    refine z_i2l X hz1 hz2 dL_law_398 ?_
    refine z_lcmp X (by omega) (by omega) dL_law_399 (fun z hz => ?_)
    have z0 : z = 0 := by omega
    refine z_if_eq X (tgt := 405) (by omega) dL_law_400 (by decide) (fun _ => ?_) (fun h7 => absurd z0 h7)
    refine z_goto X (tgt := 1234) dL_law_405 (by decide) ?_
    exact z_sub [2, 3, 4, 5, 6] rfl (nxt u.1 v u.2 _ _ hA9 (by omega) (by omega))
theorem a_add {U V : Type} [Lean.Grind.CommRing U] [Lean.Grind.CommRing V] {cu : U → Nat → FP} {ca : V → Nat → U} (HU : mp_P cu) (HA : mp_P ca) {p : Program} {l : Launch} (hl9 : l.stackTraces = false) {e : Env} {R : Room} {s : State} {m : MethodId} {args : Array Value} {below : List Frame} {meth : Method} {c : Code} {D : va_G} {ad sa : Nat → Nat} {A : Nat → Prop} {Q : State → Prop} {cI cO cJ : ClassId} (X : zCx p s m args meth c cL_law 7 RL (some .boolean) D (zTy3 cI cO cJ) 438 ad A) (XX : zX A sa s) (XL : zLx s) {b L : Nat} {xs : Nat → Int32} (hX : va_X b L xs s s.heap) (hbl : b < s.heap.size) (hbA : ¬ A b) (hL : L ≤ 320) {i : Int} (i0 : 0 ≤ i) (iL : i + 5 ≤ L) {cells slots : Nat} (hR : cells + 4 ≤ R.cells ∧ slots + 24 ≤ R.slots ∧ 12 ≤ R.frames ∧ 1000 ≤ R.locals) {S : zS} {M : zM} {f : Nat → Int64} (hA : zAg cu ca S M) (nxt : ∀ (S9 : zS) (M9 : zM) (f9 : Nat → Int64) (cells9 slots9 : Nat), zAg cu ca S9 M9 → cells9 ≤ cells + 4 → slots9 ≤ slots + 24 → Z p l e R s m args below meth c 7 D 438 ad A cells9 slots9 Q 1234 [(4, .int (iZ i)), (3, .ref (ad 437)), (2, .ref (ad 419)), (1, .ref (ad 0)), (0, .ref b)] [] (gL ad cI cO cJ S9 M9 f9)) : Z p l e R s m args below meth c 7 D 438 ad A cells slots Q 408 [(4, .int (iZ i)), (3, .ref (ad 437)), (2, .ref (ad 419)), (1, .ref (ad 0)), (0, .ref b)] [] (gL ad cI cO cJ S M f) := by
  obtain ⟨EL, md, kd, sA, sB, W, sD, cd, hC, hG, hJ⟩ := id hA
  have hmd := zC_md hC
  refine z_aload_n X 3 rfl rfl dL_law_408 ?_
  refine z_aload_n X 4 rfl rfl dL_law_409 ?_
  refine z_iload X 0 rfl dL_law_410 ?_
  refine z_iconst X (n := 1) dL_law_412 ?_
  refine z_iadd X dL_law_413 ?_
  refine z_sld X hX hbl hbA (by omega) (by omega) hL dL_law_414 ?_
  refine z_aload_n X 4 rfl rfl dL_law_415 ?_
  refine z_iload X 0 rfl dL_law_416 ?_
  refine z_iconst X (n := 2) dL_law_418 ?_
  refine z_iadd X dL_law_419 ?_
  refine z_sld X hX hbl hbA (by omega) (by omega) hL dL_law_420 ?_
  refine z_aload_n X 1 rfl rfl dL_law_421 ?_
  refine z_callL X XX XL (n' := 4) (maxL' := 5) (hh := [(0, 10, 13, 25), (0, 10, 17, 13)]) (List.mem_of_getElem? (i := 4) rfl) zw0 ⟨by decide +kernel, by decide +kernel⟩ (by decide +kernel) zw544 zw543 ⟨by omega, by omega, by omega, by omega⟩ [.ref (ad 0), .int (iZ (xs (i + 1).toNat).toInt), .int (iZ (xs (i + 2).toNat).toInt), .ref (ad 437)] (w_add l M f (c_X3_add HU HA l hl9 hC (xb _) (xb _)) (fun z u h => by rcases h with ⟨_, _, _, h1, _⟩ <;> omega) (fun E u h => by rcases h.2 with ⟨h, -⟩ | ⟨h, -⟩ | ⟨h, -⟩ <;> simp [h])) rfl rfl (Nat.le_of_ble_eq_true rfl) dL_law_422 (fun r u hw => ?_)
  refine z_istore X [(5, .int (iZ r)), (4, .int (iZ i)), (3, .ref (ad 437)), (2, .ref (ad 419)), (1, .ref (ad 0)), (0, .ref b)] rfl (by decide) dL_law_425 ?_
  refine z_aload_n X 3 rfl rfl dL_law_427 ?_
  refine z_aload_n X 5 rfl rfl dL_law_428 ?_
  refine z_iload X 1 rfl dL_law_429 ?_
  refine z_iconst X (n := 1) dL_law_431 ?_
  refine z_iadd X dL_law_432 ?_
  refine z_sld X hX hbl hbA (by omega) (by omega) hL dL_law_433 ?_
  refine z_aload_n X 5 rfl rfl dL_law_434 ?_
  refine z_iload X 1 rfl dL_law_435 ?_
  refine z_iconst X (n := 2) dL_law_437 ?_
  refine z_iadd X dL_law_438 ?_
  refine z_sld X hX hbl hbA (by omega) (by omega) hL dL_law_439 ?_
  refine z_callVi X zm_X4_add zw829 zw830 zw828 ⟨by omega, by omega, by omega, by omega⟩ [.int (iZ (xs (i + 1).toNat).toInt), .int (iZ (xs (i + 2).toNat).toInt)] (zMi_LM (F := fun w => w) (c_X4_add HU HA l hG (xb _) (xb _) (fun n h0 h1 => zNf_ne HU HA (zC_nf hC h0 h1)))) rfl rfl (Nat.le_of_ble_eq_true rfl) (by omega) ((gL_M (k := 0) (by omega)).trans gM_O) (q := vwCl[6]) rfl rfl dL_law_440 (fun zr v hm => ?_)
  refine z_istore X [(6, .int (iZ zr)), (5, .int (iZ r)), (4, .int (iZ i)), (3, .ref (ad 437)), (2, .ref (ad 419)), (1, .ref (ad 0)), (0, .ref b)] rfl (by decide) dL_law_443 ?_
  have ag := ag_add HU HA hC hJ (xb _) (xb _) hw hm
  have hr : 0 ≤ r ∧ r ≤ 3 := by
    rcases hw with ⟨h, -⟩ | ⟨E, -, h⟩
    · omega
    · have := xc_rng ["java/lang/IndexOutOfBoundsException", "java/lang/IllegalStateException"] E
      rw [← h] at this
      have h9 : ((["java/lang/IndexOutOfBoundsException", "java/lang/IllegalStateException"] : List String).length : Int) ≤ 3 := by decide
      omega
  obtain ⟨hA9, hcd, hres⟩ := ag
  refine z_aload_n X 4 rfl rfl dL_law_445 ?_
  refine z_callVi X zm_X4_thrown zw736 zw737 zw735 ⟨by omega, by omega, by omega, by omega⟩ [] (zMi_LM (F := fun _ : Unit => v) (c_X4_thrown l v hcd)) rfl rfl (Nat.le_of_ble_eq_true rfl) (by omega) ((gL_M (k := 0) (by omega)).trans gM_O) (q := vwCl[6]) rfl rfl dL_law_446 (fun zt _ ht => ?_)
  rw [show zt = r from ht]
  refine z_iload X 1 rfl dL_law_449 ?_
  refine z_icmp_eq X (tgt := 456) (by omega) (by omega) dL_law_451 (by decide) (fun _ => ?_) (fun h9 => absurd rfl h9)
  refine z_iload X 1 rfl dL_law_456 ?_
  refine z_if_ne X (tgt := 473) (by omega) dL_law_458 (by decide) (fun _ => ?_) (fun h9 => ?_)
  · refine z_goto X (tgt := 1234) dL_law_473 (by decide) ?_
    exact z_sub [2, 3, 4, 5, 6] rfl (nxt u.1 v u.2 _ _ hA9 (by omega) (by omega))
  · have h8 : r = 0 := by omega
    obtain ⟨ho, hz1, hz2⟩ := hres h8
    refine z_aload_n X 3 rfl rfl dL_law_461 ?_
    refine z_iconst X (n := 0) dL_law_462 ?_
    refine z_lald X 437 2 (by omega) gL_f rfl (by omega) (by omega) (by omega) dL_law_463 ?_
    refine z_stq (st9 := [.long (lZ zr)]) (by rw [← ho]; rfl) ?_
    refine z_iload X 0 rfl dL_law_464 ?_
    refine z_i2l X hz1 hz2 dL_law_466 ?_
    refine z_lcmp X (by omega) (by omega) dL_law_467 (fun z hz => ?_)
    have z0 : z = 0 := by omega
    refine z_if_eq X (tgt := 473) (by omega) dL_law_468 (by decide) (fun _ => ?_) (fun h7 => absurd z0 h7)
    refine z_goto X (tgt := 1234) dL_law_473 (by decide) ?_
    exact z_sub [2, 3, 4, 5, 6] rfl (nxt u.1 v u.2 _ _ hA9 (by omega) (by omega))
theorem a_less {U V : Type} [Lean.Grind.CommRing U] [Lean.Grind.CommRing V] {cu : U → Nat → FP} {ca : V → Nat → U} (HU : mp_P cu) (HA : mp_P ca) {p : Program} {l : Launch} (hl9 : l.stackTraces = false) {e : Env} {R : Room} {s : State} {m : MethodId} {args : Array Value} {below : List Frame} {meth : Method} {c : Code} {D : va_G} {ad sa : Nat → Nat} {A : Nat → Prop} {Q : State → Prop} {cI cO cJ : ClassId} (X : zCx p s m args meth c cL_law 7 RL (some .boolean) D (zTy3 cI cO cJ) 438 ad A) (XX : zX A sa s) (XL : zLx s) {b L : Nat} {xs : Nat → Int32} (hX : va_X b L xs s s.heap) (hbl : b < s.heap.size) (hbA : ¬ A b) (hL : L ≤ 320) {i : Int} (i0 : 0 ≤ i) (iL : i + 5 ≤ L) {cells slots : Nat} (hR : cells + 4 ≤ R.cells ∧ slots + 24 ≤ R.slots ∧ 12 ≤ R.frames ∧ 1000 ≤ R.locals) {S : zS} {M : zM} {f : Nat → Int64} (hA : zAg cu ca S M) (nxt : ∀ (S9 : zS) (M9 : zM) (f9 : Nat → Int64) (cells9 slots9 : Nat), zAg cu ca S9 M9 → cells9 ≤ cells + 4 → slots9 ≤ slots + 24 → Z p l e R s m args below meth c 7 D 438 ad A cells9 slots9 Q 1234 [(4, .int (iZ i)), (3, .ref (ad 437)), (2, .ref (ad 419)), (1, .ref (ad 0)), (0, .ref b)] [] (gL ad cI cO cJ S9 M9 f9)) : Z p l e R s m args below meth c 7 D 438 ad A cells slots Q 476 [(4, .int (iZ i)), (3, .ref (ad 437)), (2, .ref (ad 419)), (1, .ref (ad 0)), (0, .ref b)] [] (gL ad cI cO cJ S M f) := by
  obtain ⟨EL, md, kd, sA, sB, W, sD, cd, hC, hG, hJ⟩ := id hA
  have hmd := zC_md hC
  refine z_aload_n X 3 rfl rfl dL_law_476 ?_
  refine z_aload_n X 4 rfl rfl dL_law_477 ?_
  refine z_iload X 0 rfl dL_law_478 ?_
  refine z_iconst X (n := 1) dL_law_480 ?_
  refine z_iadd X dL_law_481 ?_
  refine z_sld X hX hbl hbA (by omega) (by omega) hL dL_law_482 ?_
  refine z_aload_n X 4 rfl rfl dL_law_483 ?_
  refine z_iload X 0 rfl dL_law_484 ?_
  refine z_iconst X (n := 2) dL_law_486 ?_
  refine z_iadd X dL_law_487 ?_
  refine z_sld X hX hbl hbA (by omega) (by omega) hL dL_law_488 ?_
  refine z_aload_n X 1 rfl rfl dL_law_489 ?_
  refine z_callL X XX XL (n' := 4) (maxL' := 5) (hh := [(0, 10, 13, 25), (0, 10, 17, 13)]) (List.mem_of_getElem? (i := 5) rfl) zw0 ⟨by decide +kernel, by decide +kernel⟩ (by decide +kernel) zw571 zw570 ⟨by omega, by omega, by omega, by omega⟩ [.ref (ad 0), .int (iZ (xs (i + 1).toNat).toInt), .int (iZ (xs (i + 2).toNat).toInt), .ref (ad 437)] (w_less l M f (c_X3_less HU HA l hl9 hC (xb _) (xb _)) (fun z u h => by rcases h with ⟨_, _, _, h1, _⟩ <;> omega) (fun E u h => by rcases h.2 with ⟨h, -⟩ | ⟨h, -⟩ | ⟨h, -⟩ <;> simp [h])) rfl rfl (Nat.le_of_ble_eq_true rfl) dL_law_490 (fun r u hw => ?_)
  refine z_istore X [(5, .int (iZ r)), (4, .int (iZ i)), (3, .ref (ad 437)), (2, .ref (ad 419)), (1, .ref (ad 0)), (0, .ref b)] rfl (by decide) dL_law_493 ?_
  refine z_aload_n X 3 rfl rfl dL_law_495 ?_
  refine z_aload_n X 5 rfl rfl dL_law_496 ?_
  refine z_iload X 1 rfl dL_law_497 ?_
  refine z_iconst X (n := 1) dL_law_499 ?_
  refine z_iadd X dL_law_500 ?_
  refine z_sld X hX hbl hbA (by omega) (by omega) hL dL_law_501 ?_
  refine z_aload_n X 5 rfl rfl dL_law_502 ?_
  refine z_iload X 1 rfl dL_law_503 ?_
  refine z_iconst X (n := 2) dL_law_505 ?_
  refine z_iadd X dL_law_506 ?_
  refine z_sld X hX hbl hbA (by omega) (by omega) hL dL_law_507 ?_
  refine z_callVi X zm_X4_less zw841 zw842 zw840 ⟨by omega, by omega, by omega, by omega⟩ [.int (iZ (xs (i + 1).toNat).toInt), .int (iZ (xs (i + 2).toNat).toInt)] (zMi_LM (F := fun w => w) (c_X4_less HU HA l hG (xb _) (xb _) (fun n h0 h1 => zNf_ne HU HA (zC_nf hC h0 h1)))) rfl rfl (Nat.le_of_ble_eq_true rfl) (by omega) ((gL_M (k := 0) (by omega)).trans gM_O) (q := vwCl[6]) rfl rfl dL_law_508 (fun zr v hm => ?_)
  refine z_istore X [(6, .int (iZ zr)), (5, .int (iZ r)), (4, .int (iZ i)), (3, .ref (ad 437)), (2, .ref (ad 419)), (1, .ref (ad 0)), (0, .ref b)] rfl (by decide) dL_law_511 ?_
  have ag := ag_less HU HA hC hJ (xb _) (xb _) hw hm
  have hr : 0 ≤ r ∧ r ≤ 3 := by
    rcases hw with ⟨h, -⟩ | ⟨E, -, h⟩
    · omega
    · have := xc_rng ["java/lang/IndexOutOfBoundsException", "java/lang/IllegalStateException"] E
      rw [← h] at this
      have h9 : ((["java/lang/IndexOutOfBoundsException", "java/lang/IllegalStateException"] : List String).length : Int) ≤ 3 := by decide
      omega
  obtain ⟨hA9, hcd, hres⟩ := ag
  refine z_aload_n X 4 rfl rfl dL_law_513 ?_
  refine z_callVi X zm_X4_thrown zw736 zw737 zw735 ⟨by omega, by omega, by omega, by omega⟩ [] (zMi_LM (F := fun _ : Unit => v) (c_X4_thrown l v hcd)) rfl rfl (Nat.le_of_ble_eq_true rfl) (by omega) ((gL_M (k := 0) (by omega)).trans gM_O) (q := vwCl[6]) rfl rfl dL_law_514 (fun zt _ ht => ?_)
  rw [show zt = r from ht]
  refine z_iload X 1 rfl dL_law_517 ?_
  refine z_icmp_eq X (tgt := 524) (by omega) (by omega) dL_law_519 (by decide) (fun _ => ?_) (fun h9 => absurd rfl h9)
  refine z_iload X 1 rfl dL_law_524 ?_
  refine z_if_ne X (tgt := 541) (by omega) dL_law_526 (by decide) (fun _ => ?_) (fun h9 => ?_)
  · refine z_goto X (tgt := 1234) dL_law_541 (by decide) ?_
    exact z_sub [2, 3, 4, 5, 6] rfl (nxt u.1 v u.2 _ _ hA9 (by omega) (by omega))
  · have h8 : r = 0 := by omega
    obtain ⟨ho, hz1, hz2⟩ := hres h8
    refine z_aload_n X 3 rfl rfl dL_law_529 ?_
    refine z_iconst X (n := 0) dL_law_530 ?_
    refine z_lald X 437 2 (by omega) gL_f rfl (by omega) (by omega) (by omega) dL_law_531 ?_
    refine z_stq (st9 := [.long (lZ zr)]) (by rw [← ho]; rfl) ?_
    refine z_iload X 0 rfl dL_law_532 ?_
    refine z_i2l X hz1 hz2 dL_law_534 ?_
    refine z_lcmp X (by omega) (by omega) dL_law_535 (fun z hz => ?_)
    have z0 : z = 0 := by omega
    refine z_if_eq X (tgt := 541) (by omega) dL_law_536 (by decide) (fun _ => ?_) (fun h7 => absurd z0 h7)
    refine z_goto X (tgt := 1234) dL_law_541 (by decide) ?_
    exact z_sub [2, 3, 4, 5, 6] rfl (nxt u.1 v u.2 _ _ hA9 (by omega) (by omega))
theorem a_times {U V : Type} [Lean.Grind.CommRing U] [Lean.Grind.CommRing V] {cu : U → Nat → FP} {ca : V → Nat → U} (HU : mp_P cu) (HA : mp_P ca) {p : Program} {l : Launch} (hl9 : l.stackTraces = false) {e : Env} {R : Room} {s : State} {m : MethodId} {args : Array Value} {below : List Frame} {meth : Method} {c : Code} {D : va_G} {ad sa : Nat → Nat} {A : Nat → Prop} {Q : State → Prop} {cI cO cJ : ClassId} (X : zCx p s m args meth c cL_law 7 RL (some .boolean) D (zTy3 cI cO cJ) 438 ad A) (XX : zX A sa s) (XL : zLx s) {b L : Nat} {xs : Nat → Int32} (hX : va_X b L xs s s.heap) (hbl : b < s.heap.size) (hbA : ¬ A b) (hL : L ≤ 320) {i : Int} (i0 : 0 ≤ i) (iL : i + 5 ≤ L) {cells slots : Nat} (hR : cells + 4 ≤ R.cells ∧ slots + 24 ≤ R.slots ∧ 12 ≤ R.frames ∧ 1000 ≤ R.locals) {S : zS} {M : zM} {f : Nat → Int64} (hA : zAg cu ca S M) (nxt : ∀ (S9 : zS) (M9 : zM) (f9 : Nat → Int64) (cells9 slots9 : Nat), zAg cu ca S9 M9 → cells9 ≤ cells + 4 → slots9 ≤ slots + 24 → Z p l e R s m args below meth c 7 D 438 ad A cells9 slots9 Q 1234 [(4, .int (iZ i)), (3, .ref (ad 437)), (2, .ref (ad 419)), (1, .ref (ad 0)), (0, .ref b)] [] (gL ad cI cO cJ S9 M9 f9)) : Z p l e R s m args below meth c 7 D 438 ad A cells slots Q 544 [(4, .int (iZ i)), (3, .ref (ad 437)), (2, .ref (ad 419)), (1, .ref (ad 0)), (0, .ref b)] [] (gL ad cI cO cJ S M f) := by
  obtain ⟨EL, md, kd, sA, sB, W, sD, cd, hC, hG, hJ⟩ := id hA
  have hmd := zC_md hC
  refine z_aload_n X 3 rfl rfl dL_law_544 ?_
  refine z_aload_n X 4 rfl rfl dL_law_545 ?_
  refine z_iload X 0 rfl dL_law_546 ?_
  refine z_iconst X (n := 1) dL_law_548 ?_
  refine z_iadd X dL_law_549 ?_
  refine z_sld X hX hbl hbA (by omega) (by omega) hL dL_law_550 ?_
  refine z_aload_n X 4 rfl rfl dL_law_551 ?_
  refine z_iload X 0 rfl dL_law_552 ?_
  refine z_iconst X (n := 2) dL_law_554 ?_
  refine z_iadd X dL_law_555 ?_
  refine z_sld X hX hbl hbA (by omega) (by omega) hL dL_law_556 ?_
  refine z_aload_n X 1 rfl rfl dL_law_557 ?_
  refine z_callL X XX XL (n' := 4) (maxL' := 5) (hh := [(0, 10, 13, 25), (0, 10, 17, 13)]) (List.mem_of_getElem? (i := 6) rfl) zw0 ⟨by decide +kernel, by decide +kernel⟩ (by decide +kernel) zw578 zw577 ⟨by omega, by omega, by omega, by omega⟩ [.ref (ad 0), .int (iZ (xs (i + 1).toNat).toInt), .int (iZ (xs (i + 2).toNat).toInt), .ref (ad 437)] (w_times l M f (c_X3_times HU HA l hl9 hC (xb _) (xb _)) (fun z u h => by rcases h with ⟨_, _, _, h1, _⟩ <;> omega) (fun E u h => by rcases h.2 with ⟨h, -⟩ | ⟨h, -⟩ | ⟨h, -⟩ <;> simp [h])) rfl rfl (Nat.le_of_ble_eq_true rfl) dL_law_558 (fun r u hw => ?_)
  refine z_istore X [(5, .int (iZ r)), (4, .int (iZ i)), (3, .ref (ad 437)), (2, .ref (ad 419)), (1, .ref (ad 0)), (0, .ref b)] rfl (by decide) dL_law_561 ?_
  refine z_aload_n X 3 rfl rfl dL_law_563 ?_
  refine z_aload_n X 5 rfl rfl dL_law_564 ?_
  refine z_iload X 1 rfl dL_law_565 ?_
  refine z_iconst X (n := 1) dL_law_567 ?_
  refine z_iadd X dL_law_568 ?_
  refine z_sld X hX hbl hbA (by omega) (by omega) hL dL_law_569 ?_
  refine z_aload_n X 5 rfl rfl dL_law_570 ?_
  refine z_iload X 1 rfl dL_law_571 ?_
  refine z_iconst X (n := 2) dL_law_573 ?_
  refine z_iadd X dL_law_574 ?_
  refine z_sld X hX hbl hbA (by omega) (by omega) hL dL_law_575 ?_
  refine z_callVi X zm_X4_times zw845 zw846 zw844 ⟨by omega, by omega, by omega, by omega⟩ [.int (iZ (xs (i + 1).toNat).toInt), .int (iZ (xs (i + 2).toNat).toInt)] (zMi_LM (F := fun w => w) (c_X4_times HU HA l hG (xb _) (xb _) (fun n h0 h1 => zNf_ne HU HA (zC_nf hC h0 h1)))) rfl rfl (Nat.le_of_ble_eq_true rfl) (by omega) ((gL_M (k := 0) (by omega)).trans gM_O) (q := vwCl[6]) rfl rfl dL_law_576 (fun zr v hm => ?_)
  refine z_istore X [(6, .int (iZ zr)), (5, .int (iZ r)), (4, .int (iZ i)), (3, .ref (ad 437)), (2, .ref (ad 419)), (1, .ref (ad 0)), (0, .ref b)] rfl (by decide) dL_law_579 ?_
  have ag := ag_times HU HA hC hJ (xb _) (xb _) hw hm
  have hr : 0 ≤ r ∧ r ≤ 3 := by
    rcases hw with ⟨h, -⟩ | ⟨E, -, h⟩
    · omega
    · have := xc_rng ["java/lang/IndexOutOfBoundsException", "java/lang/IllegalStateException"] E
      rw [← h] at this
      have h9 : ((["java/lang/IndexOutOfBoundsException", "java/lang/IllegalStateException"] : List String).length : Int) ≤ 3 := by decide
      omega
  obtain ⟨hA9, hcd, hres⟩ := ag
  refine z_aload_n X 4 rfl rfl dL_law_581 ?_
  refine z_callVi X zm_X4_thrown zw736 zw737 zw735 ⟨by omega, by omega, by omega, by omega⟩ [] (zMi_LM (F := fun _ : Unit => v) (c_X4_thrown l v hcd)) rfl rfl (Nat.le_of_ble_eq_true rfl) (by omega) ((gL_M (k := 0) (by omega)).trans gM_O) (q := vwCl[6]) rfl rfl dL_law_582 (fun zt _ ht => ?_)
  rw [show zt = r from ht]
  refine z_iload X 1 rfl dL_law_585 ?_
  refine z_icmp_eq X (tgt := 592) (by omega) (by omega) dL_law_587 (by decide) (fun _ => ?_) (fun h9 => absurd rfl h9)
  refine z_iload X 1 rfl dL_law_592 ?_
  refine z_if_ne X (tgt := 609) (by omega) dL_law_594 (by decide) (fun _ => ?_) (fun h9 => ?_)
  · refine z_goto X (tgt := 1234) dL_law_609 (by decide) ?_
    exact z_sub [2, 3, 4, 5, 6] rfl (nxt u.1 v u.2 _ _ hA9 (by omega) (by omega))
  · have h8 : r = 0 := by omega
    obtain ⟨ho, hz1, hz2⟩ := hres h8
    refine z_aload_n X 3 rfl rfl dL_law_597 ?_
    refine z_iconst X (n := 0) dL_law_598 ?_
    refine z_lald X 437 2 (by omega) gL_f rfl (by omega) (by omega) (by omega) dL_law_599 ?_
    refine z_stq (st9 := [.long (lZ zr)]) (by rw [← ho]; rfl) ?_
    refine z_iload X 0 rfl dL_law_600 ?_
    refine z_i2l X hz1 hz2 dL_law_602 ?_
    refine z_lcmp X (by omega) (by omega) dL_law_603 (fun z hz => ?_)
    have z0 : z = 0 := by omega
    refine z_if_eq X (tgt := 609) (by omega) dL_law_604 (by decide) (fun _ => ?_) (fun h7 => absurd z0 h7)
    refine z_goto X (tgt := 1234) dL_law_609 (by decide) ?_
    exact z_sub [2, 3, 4, 5, 6] rfl (nxt u.1 v u.2 _ _ hA9 (by omega) (by omega))
theorem a_over {U V : Type} [Lean.Grind.CommRing U] [Lean.Grind.CommRing V] {cu : U → Nat → FP} {ca : V → Nat → U} (HU : mp_P cu) (HA : mp_P ca) {p : Program} {l : Launch} (hl9 : l.stackTraces = false) {e : Env} {R : Room} {s : State} {m : MethodId} {args : Array Value} {below : List Frame} {meth : Method} {c : Code} {D : va_G} {ad sa : Nat → Nat} {A : Nat → Prop} {Q : State → Prop} {cI cO cJ : ClassId} (X : zCx p s m args meth c cL_law 7 RL (some .boolean) D (zTy3 cI cO cJ) 438 ad A) (XX : zX A sa s) (XL : zLx s) {b L : Nat} {xs : Nat → Int32} (hX : va_X b L xs s s.heap) (hbl : b < s.heap.size) (hbA : ¬ A b) (hL : L ≤ 320) {i : Int} (i0 : 0 ≤ i) (iL : i + 5 ≤ L) {cells slots : Nat} (hR : cells + 4 ≤ R.cells ∧ slots + 24 ≤ R.slots ∧ 12 ≤ R.frames ∧ 1000 ≤ R.locals) {S : zS} {M : zM} {f : Nat → Int64} (hA : zAg cu ca S M) (nxt : ∀ (S9 : zS) (M9 : zM) (f9 : Nat → Int64) (cells9 slots9 : Nat), zAg cu ca S9 M9 → cells9 ≤ cells + 4 → slots9 ≤ slots + 24 → Z p l e R s m args below meth c 7 D 438 ad A cells9 slots9 Q 1234 [(4, .int (iZ i)), (3, .ref (ad 437)), (2, .ref (ad 419)), (1, .ref (ad 0)), (0, .ref b)] [] (gL ad cI cO cJ S9 M9 f9)) : Z p l e R s m args below meth c 7 D 438 ad A cells slots Q 612 [(4, .int (iZ i)), (3, .ref (ad 437)), (2, .ref (ad 419)), (1, .ref (ad 0)), (0, .ref b)] [] (gL ad cI cO cJ S M f) := by
  obtain ⟨EL, md, kd, sA, sB, W, sD, cd, hC, hG, hJ⟩ := id hA
  have hmd := zC_md hC
  refine z_aload_n X 3 rfl rfl dL_law_612 ?_
  refine z_aload_n X 4 rfl rfl dL_law_613 ?_
  refine z_iload X 0 rfl dL_law_614 ?_
  refine z_iconst X (n := 1) dL_law_616 ?_
  refine z_iadd X dL_law_617 ?_
  refine z_sld X hX hbl hbA (by omega) (by omega) hL dL_law_618 ?_
  refine z_aload_n X 4 rfl rfl dL_law_619 ?_
  refine z_iload X 0 rfl dL_law_620 ?_
  refine z_iconst X (n := 2) dL_law_622 ?_
  refine z_iadd X dL_law_623 ?_
  refine z_sld X hX hbl hbA (by omega) (by omega) hL dL_law_624 ?_
  refine z_aload_n X 1 rfl rfl dL_law_625 ?_
  refine z_callL X XX XL (n' := 4) (maxL' := 5) (hh := [(0, 10, 13, 25), (0, 10, 17, 13)]) (List.mem_of_getElem? (i := 7) rfl) zw0 ⟨by decide +kernel, by decide +kernel⟩ (by decide +kernel) zw585 zw584 ⟨by omega, by omega, by omega, by omega⟩ [.ref (ad 0), .int (iZ (xs (i + 1).toNat).toInt), .int (iZ (xs (i + 2).toNat).toInt), .ref (ad 437)] (w_over l M f (c_X3_over HU HA l hl9 hC (xb _) (xb _)) (fun z u h => by rcases h with ⟨_, _, _, ⟨h1, _⟩ | ⟨_, h1, _⟩⟩ <;> omega) (fun E u h => by rcases h.2 with ⟨h, -⟩ | ⟨h, -⟩ | ⟨h, -⟩ <;> simp [h])) rfl rfl (Nat.le_of_ble_eq_true rfl) dL_law_626 (fun r u hw => ?_)
  refine z_istore X [(5, .int (iZ r)), (4, .int (iZ i)), (3, .ref (ad 437)), (2, .ref (ad 419)), (1, .ref (ad 0)), (0, .ref b)] rfl (by decide) dL_law_629 ?_
  refine z_aload_n X 3 rfl rfl dL_law_631 ?_
  refine z_aload_n X 5 rfl rfl dL_law_632 ?_
  refine z_iload X 1 rfl dL_law_633 ?_
  refine z_iconst X (n := 1) dL_law_635 ?_
  refine z_iadd X dL_law_636 ?_
  refine z_sld X hX hbl hbA (by omega) (by omega) hL dL_law_637 ?_
  refine z_aload_n X 5 rfl rfl dL_law_638 ?_
  refine z_iload X 1 rfl dL_law_639 ?_
  refine z_iconst X (n := 2) dL_law_641 ?_
  refine z_iadd X dL_law_642 ?_
  refine z_sld X hX hbl hbA (by omega) (by omega) hL dL_law_643 ?_
  refine z_callVi X zm_X4_over zw849 zw850 zw848 ⟨by omega, by omega, by omega, by omega⟩ [.int (iZ (xs (i + 1).toNat).toInt), .int (iZ (xs (i + 2).toNat).toInt)] (zMi_LM (F := fun w => w) (c_X4_over HU HA l hG (xb _) (xb _) (fun n h0 h1 => zNf_ne HU HA (zC_nf hC h0 h1)))) rfl rfl (Nat.le_of_ble_eq_true rfl) (by omega) ((gL_M (k := 0) (by omega)).trans gM_O) (q := vwCl[6]) rfl rfl dL_law_644 (fun zr v hm => ?_)
  refine z_istore X [(6, .int (iZ zr)), (5, .int (iZ r)), (4, .int (iZ i)), (3, .ref (ad 437)), (2, .ref (ad 419)), (1, .ref (ad 0)), (0, .ref b)] rfl (by decide) dL_law_647 ?_
  have ag := ag_over HU HA hC hJ (xb _) (xb _) hw hm
  have hr : 0 ≤ r ∧ r ≤ 3 := by
    rcases hw with ⟨h, -⟩ | ⟨E, -, h⟩
    · omega
    · have := xc_rng ["java/lang/IndexOutOfBoundsException", "java/lang/IllegalStateException"] E
      rw [← h] at this
      have h9 : ((["java/lang/IndexOutOfBoundsException", "java/lang/IllegalStateException"] : List String).length : Int) ≤ 3 := by decide
      omega
  obtain ⟨hA9, hcd, hres⟩ := ag
  refine z_aload_n X 4 rfl rfl dL_law_649 ?_
  refine z_callVi X zm_X4_thrown zw736 zw737 zw735 ⟨by omega, by omega, by omega, by omega⟩ [] (zMi_LM (F := fun _ : Unit => v) (c_X4_thrown l v hcd)) rfl rfl (Nat.le_of_ble_eq_true rfl) (by omega) ((gL_M (k := 0) (by omega)).trans gM_O) (q := vwCl[6]) rfl rfl dL_law_650 (fun zt _ ht => ?_)
  rw [show zt = r from ht]
  refine z_iload X 1 rfl dL_law_653 ?_
  refine z_icmp_eq X (tgt := 660) (by omega) (by omega) dL_law_655 (by decide) (fun _ => ?_) (fun h9 => absurd rfl h9)
  refine z_iload X 1 rfl dL_law_660 ?_
  refine z_if_ne X (tgt := 677) (by omega) dL_law_662 (by decide) (fun _ => ?_) (fun h9 => ?_)
  · refine z_goto X (tgt := 1234) dL_law_677 (by decide) ?_
    exact z_sub [2, 3, 4, 5, 6] rfl (nxt u.1 v u.2 _ _ hA9 (by omega) (by omega))
  · have h8 : r = 0 := by omega
    obtain ⟨ho, hz1, hz2⟩ := hres h8
    refine z_aload_n X 3 rfl rfl dL_law_665 ?_
    refine z_iconst X (n := 0) dL_law_666 ?_
    refine z_lald X 437 2 (by omega) gL_f rfl (by omega) (by omega) (by omega) dL_law_667 ?_
    refine z_stq (st9 := [.long (lZ zr)]) (by rw [← ho]; rfl) ?_
    refine z_iload X 0 rfl dL_law_668 ?_
    refine z_i2l X hz1 hz2 dL_law_670 ?_
    refine z_lcmp X (by omega) (by omega) dL_law_671 (fun z hz => ?_)
    have z0 : z = 0 := by omega
    refine z_if_eq X (tgt := 677) (by omega) dL_law_672 (by decide) (fun _ => ?_) (fun h7 => absurd z0 h7)
    refine z_goto X (tgt := 1234) dL_law_677 (by decide) ?_
    exact z_sub [2, 3, 4, 5, 6] rfl (nxt u.1 v u.2 _ _ hA9 (by omega) (by omega))
theorem a_derive {U V : Type} [Lean.Grind.CommRing U] [Lean.Grind.CommRing V] {cu : U → Nat → FP} {ca : V → Nat → U} (HU : mp_P cu) (HA : mp_P ca) {p : Program} {l : Launch} (hl9 : l.stackTraces = false) {e : Env} {R : Room} {s : State} {m : MethodId} {args : Array Value} {below : List Frame} {meth : Method} {c : Code} {D : va_G} {ad sa : Nat → Nat} {A : Nat → Prop} {Q : State → Prop} {cI cO cJ : ClassId} (X : zCx p s m args meth c cL_law 7 RL (some .boolean) D (zTy3 cI cO cJ) 438 ad A) (XX : zX A sa s) (XL : zLx s) {b L : Nat} {xs : Nat → Int32} (hX : va_X b L xs s s.heap) (hbl : b < s.heap.size) (hbA : ¬ A b) (hL : L ≤ 320) {i : Int} (i0 : 0 ≤ i) (iL : i + 5 ≤ L) {cells slots : Nat} (hR : cells + 4 ≤ R.cells ∧ slots + 24 ≤ R.slots ∧ 12 ≤ R.frames ∧ 1000 ≤ R.locals) {S : zS} {M : zM} {f : Nat → Int64} (hA : zAg cu ca S M) (nxt : ∀ (S9 : zS) (M9 : zM) (f9 : Nat → Int64) (cells9 slots9 : Nat), zAg cu ca S9 M9 → cells9 ≤ cells + 4 → slots9 ≤ slots + 24 → Z p l e R s m args below meth c 7 D 438 ad A cells9 slots9 Q 1234 [(4, .int (iZ i)), (3, .ref (ad 437)), (2, .ref (ad 419)), (1, .ref (ad 0)), (0, .ref b)] [] (gL ad cI cO cJ S9 M9 f9)) : Z p l e R s m args below meth c 7 D 438 ad A cells slots Q 680 [(4, .int (iZ i)), (3, .ref (ad 437)), (2, .ref (ad 419)), (1, .ref (ad 0)), (0, .ref b)] [] (gL ad cI cO cJ S M f) := by
  obtain ⟨EL, md, kd, sA, sB, W, sD, cd, hC, hG, hJ⟩ := id hA
  have hmd := zC_md hC
  refine z_aload_n X 3 rfl rfl dL_law_680 ?_
  refine z_aload_n X 4 rfl rfl dL_law_681 ?_
  refine z_iload X 0 rfl dL_law_682 ?_
  refine z_iconst X (n := 1) dL_law_684 ?_
  refine z_iadd X dL_law_685 ?_
  refine z_sld X hX hbl hbA (by omega) (by omega) hL dL_law_686 ?_
  refine z_aload_n X 1 rfl rfl dL_law_687 ?_
  refine z_callL X XX XL (n' := 3) (maxL' := 4) (hh := [(0, 9, 12, 25), (0, 9, 15, 13)]) (List.mem_of_getElem? (i := 8) rfl) zw0 ⟨by decide +kernel, by decide +kernel⟩ (by decide +kernel) zw592 zw591 ⟨by omega, by omega, by omega, by omega⟩ [.ref (ad 0), .int (iZ (xs (i + 1).toNat).toInt), .ref (ad 437)] (w_derive l M f (c_X3_derive HU HA l hl9 hC hJ.2.1 (xb _)) (fun z u h => by rcases h with ⟨_, _, h1, _⟩ <;> omega) (fun E u h => by rcases h.2 with ⟨h, -⟩ | ⟨h, -⟩ | ⟨h, -⟩ <;> simp [h])) rfl rfl (Nat.le_of_ble_eq_true rfl) dL_law_688 (fun r u hw => ?_)
  refine z_istore X [(5, .int (iZ r)), (4, .int (iZ i)), (3, .ref (ad 437)), (2, .ref (ad 419)), (1, .ref (ad 0)), (0, .ref b)] rfl (by decide) dL_law_691 ?_
  refine z_aload_n X 3 rfl rfl dL_law_693 ?_
  refine z_aload_n X 5 rfl rfl dL_law_694 ?_
  refine z_iload X 1 rfl dL_law_695 ?_
  refine z_iconst X (n := 1) dL_law_697 ?_
  refine z_iadd X dL_law_698 ?_
  refine z_sld X hX hbl hbA (by omega) (by omega) hL dL_law_699 ?_
  refine z_callVi X zm_X4_derive zw853 zw854 zw852 ⟨by omega, by omega, by omega, by omega⟩ [.int (iZ (xs (i + 1).toNat).toInt)] (zMi_LM (F := fun w => w) (c_X4_derive HU HA l hG (xb _) (fun n h0 h1 => zNf_ne HU HA (zC_nf hC h0 h1)))) rfl rfl (Nat.le_of_ble_eq_true rfl) (by omega) ((gL_M (k := 0) (by omega)).trans gM_O) (q := vwCl[6]) rfl rfl dL_law_700 (fun zr v hm => ?_)
  refine z_istore X [(6, .int (iZ zr)), (5, .int (iZ r)), (4, .int (iZ i)), (3, .ref (ad 437)), (2, .ref (ad 419)), (1, .ref (ad 0)), (0, .ref b)] rfl (by decide) dL_law_703 ?_
  have ag := ag_derive HU HA hC hJ (xb _) hw hm
  have hr : 0 ≤ r ∧ r ≤ 3 := by
    rcases hw with ⟨h, -⟩ | ⟨E, -, h⟩
    · omega
    · have := xc_rng ["java/lang/IndexOutOfBoundsException", "java/lang/IllegalStateException"] E
      rw [← h] at this
      have h9 : ((["java/lang/IndexOutOfBoundsException", "java/lang/IllegalStateException"] : List String).length : Int) ≤ 3 := by decide
      omega
  obtain ⟨hA9, hcd, hres⟩ := ag
  refine z_aload_n X 4 rfl rfl dL_law_705 ?_
  refine z_callVi X zm_X4_thrown zw736 zw737 zw735 ⟨by omega, by omega, by omega, by omega⟩ [] (zMi_LM (F := fun _ : Unit => v) (c_X4_thrown l v hcd)) rfl rfl (Nat.le_of_ble_eq_true rfl) (by omega) ((gL_M (k := 0) (by omega)).trans gM_O) (q := vwCl[6]) rfl rfl dL_law_706 (fun zt _ ht => ?_)
  rw [show zt = r from ht]
  refine z_iload X 1 rfl dL_law_709 ?_
  refine z_icmp_eq X (tgt := 716) (by omega) (by omega) dL_law_711 (by decide) (fun _ => ?_) (fun h9 => absurd rfl h9)
  refine z_iload X 1 rfl dL_law_716 ?_
  refine z_if_ne X (tgt := 733) (by omega) dL_law_718 (by decide) (fun _ => ?_) (fun h9 => ?_)
  · refine z_goto X (tgt := 1234) dL_law_733 (by decide) ?_
    exact z_sub [2, 3, 4, 5, 6] rfl (nxt u.1 v u.2 _ _ hA9 (by omega) (by omega))
  · have h8 : r = 0 := by omega
    obtain ⟨ho, hz1, hz2⟩ := hres h8
    refine z_aload_n X 3 rfl rfl dL_law_721 ?_
    refine z_iconst X (n := 0) dL_law_722 ?_
    refine z_lald X 437 2 (by omega) gL_f rfl (by omega) (by omega) (by omega) dL_law_723 ?_
    refine z_stq (st9 := [.long (lZ zr)]) (by rw [← ho]; rfl) ?_
    refine z_iload X 0 rfl dL_law_724 ?_
    refine z_i2l X hz1 hz2 dL_law_726 ?_
    refine z_lcmp X (by omega) (by omega) dL_law_727 (fun z hz => ?_)
    have z0 : z = 0 := by omega
    refine z_if_eq X (tgt := 733) (by omega) dL_law_728 (by decide) (fun _ => ?_) (fun h7 => absurd z0 h7)
    refine z_goto X (tgt := 1234) dL_law_733 (by decide) ?_
    exact z_sub [2, 3, 4, 5, 6] rfl (nxt u.1 v u.2 _ _ hA9 (by omega) (by omega))
theorem a_logarithmic {U V : Type} [Lean.Grind.CommRing U] [Lean.Grind.CommRing V] {cu : U → Nat → FP} {ca : V → Nat → U} (HU : mp_P cu) (HA : mp_P ca) {p : Program} {l : Launch} (hl9 : l.stackTraces = false) {e : Env} {R : Room} {s : State} {m : MethodId} {args : Array Value} {below : List Frame} {meth : Method} {c : Code} {D : va_G} {ad sa : Nat → Nat} {A : Nat → Prop} {Q : State → Prop} {cI cO cJ : ClassId} (X : zCx p s m args meth c cL_law 7 RL (some .boolean) D (zTy3 cI cO cJ) 438 ad A) (XX : zX A sa s) (XL : zLx s) {b L : Nat} {xs : Nat → Int32} (hX : va_X b L xs s s.heap) (hbl : b < s.heap.size) (hbA : ¬ A b) (hL : L ≤ 320) {i : Int} (i0 : 0 ≤ i) (iL : i + 5 ≤ L) {cells slots : Nat} (hR : cells + 4 ≤ R.cells ∧ slots + 24 ≤ R.slots ∧ 12 ≤ R.frames ∧ 1000 ≤ R.locals) {S : zS} {M : zM} {f : Nat → Int64} (hA : zAg cu ca S M) (nxt : ∀ (S9 : zS) (M9 : zM) (f9 : Nat → Int64) (cells9 slots9 : Nat), zAg cu ca S9 M9 → cells9 ≤ cells + 4 → slots9 ≤ slots + 24 → Z p l e R s m args below meth c 7 D 438 ad A cells9 slots9 Q 1234 [(4, .int (iZ i)), (3, .ref (ad 437)), (2, .ref (ad 419)), (1, .ref (ad 0)), (0, .ref b)] [] (gL ad cI cO cJ S9 M9 f9)) : Z p l e R s m args below meth c 7 D 438 ad A cells slots Q 736 [(4, .int (iZ i)), (3, .ref (ad 437)), (2, .ref (ad 419)), (1, .ref (ad 0)), (0, .ref b)] [] (gL ad cI cO cJ S M f) := by
  obtain ⟨EL, md, kd, sA, sB, W, sD, cd, hC, hG, hJ⟩ := id hA
  have hmd := zC_md hC
  refine z_aload_n X 3 rfl rfl dL_law_736 ?_
  refine z_aload_n X 4 rfl rfl dL_law_737 ?_
  refine z_iload X 0 rfl dL_law_738 ?_
  refine z_iconst X (n := 1) dL_law_740 ?_
  refine z_iadd X dL_law_741 ?_
  refine z_sld X hX hbl hbA (by omega) (by omega) hL dL_law_742 ?_
  refine z_aload_n X 1 rfl rfl dL_law_743 ?_
  refine z_callL X XX XL (n' := 3) (maxL' := 4) (hh := [(0, 9, 12, 25), (0, 9, 15, 13)]) (List.mem_of_getElem? (i := 9) rfl) zw0 ⟨by decide +kernel, by decide +kernel⟩ (by decide +kernel) zw603 zw602 ⟨by omega, by omega, by omega, by omega⟩ [.ref (ad 0), .int (iZ (xs (i + 1).toNat).toInt), .ref (ad 437)] (w_logarithmic l M f (c_X3_logarithmic HU HA l hl9 hC hJ.2.1 (xb _)) (fun z u h => by rcases h with ⟨_, _, ⟨h1, _⟩ | ⟨_, h1, _⟩⟩ <;> omega) (fun E u h => by rcases h.2 with ⟨h, -⟩ | ⟨h, -⟩ | ⟨h, -⟩ <;> simp [h])) rfl rfl (Nat.le_of_ble_eq_true rfl) dL_law_744 (fun r u hw => ?_)
  refine z_istore X [(5, .int (iZ r)), (4, .int (iZ i)), (3, .ref (ad 437)), (2, .ref (ad 419)), (1, .ref (ad 0)), (0, .ref b)] rfl (by decide) dL_law_747 ?_
  refine z_aload_n X 3 rfl rfl dL_law_749 ?_
  refine z_aload_n X 5 rfl rfl dL_law_750 ?_
  refine z_iload X 1 rfl dL_law_751 ?_
  refine z_iconst X (n := 1) dL_law_753 ?_
  refine z_iadd X dL_law_754 ?_
  refine z_sld X hX hbl hbA (by omega) (by omega) hL dL_law_755 ?_
  refine z_callVi X zm_X4_logarithmic zw869 zw870 zw868 ⟨by omega, by omega, by omega, by omega⟩ [.int (iZ (xs (i + 1).toNat).toInt)] (zMi_LM (F := fun w => w) (c_X4_logarithmic HU HA l hG (xb _) (fun n h0 h1 => zNf_ne HU HA (zC_nf hC h0 h1)))) rfl rfl (Nat.le_of_ble_eq_true rfl) (by omega) ((gL_M (k := 0) (by omega)).trans gM_O) (q := vwCl[6]) rfl rfl dL_law_756 (fun zr v hm => ?_)
  refine z_istore X [(6, .int (iZ zr)), (5, .int (iZ r)), (4, .int (iZ i)), (3, .ref (ad 437)), (2, .ref (ad 419)), (1, .ref (ad 0)), (0, .ref b)] rfl (by decide) dL_law_759 ?_
  have ag := ag_logarithmic HU HA hC hJ (xb _) hw hm
  have hr : 0 ≤ r ∧ r ≤ 3 := by
    rcases hw with ⟨h, -⟩ | ⟨E, -, h⟩
    · omega
    · have := xc_rng ["java/lang/IndexOutOfBoundsException", "java/lang/IllegalStateException"] E
      rw [← h] at this
      have h9 : ((["java/lang/IndexOutOfBoundsException", "java/lang/IllegalStateException"] : List String).length : Int) ≤ 3 := by decide
      omega
  obtain ⟨hA9, hcd, hres⟩ := ag
  refine z_aload_n X 4 rfl rfl dL_law_761 ?_
  refine z_callVi X zm_X4_thrown zw736 zw737 zw735 ⟨by omega, by omega, by omega, by omega⟩ [] (zMi_LM (F := fun _ : Unit => v) (c_X4_thrown l v hcd)) rfl rfl (Nat.le_of_ble_eq_true rfl) (by omega) ((gL_M (k := 0) (by omega)).trans gM_O) (q := vwCl[6]) rfl rfl dL_law_762 (fun zt _ ht => ?_)
  rw [show zt = r from ht]
  refine z_iload X 1 rfl dL_law_765 ?_
  refine z_icmp_eq X (tgt := 772) (by omega) (by omega) dL_law_767 (by decide) (fun _ => ?_) (fun h9 => absurd rfl h9)
  refine z_iload X 1 rfl dL_law_772 ?_
  refine z_if_ne X (tgt := 789) (by omega) dL_law_774 (by decide) (fun _ => ?_) (fun h9 => ?_)
  · refine z_goto X (tgt := 1234) dL_law_789 (by decide) ?_
    exact z_sub [2, 3, 4, 5, 6] rfl (nxt u.1 v u.2 _ _ hA9 (by omega) (by omega))
  · have h8 : r = 0 := by omega
    obtain ⟨ho, hz1, hz2⟩ := hres h8
    refine z_aload_n X 3 rfl rfl dL_law_777 ?_
    refine z_iconst X (n := 0) dL_law_778 ?_
    refine z_lald X 437 2 (by omega) gL_f rfl (by omega) (by omega) (by omega) dL_law_779 ?_
    refine z_stq (st9 := [.long (lZ zr)]) (by rw [← ho]; rfl) ?_
    refine z_iload X 0 rfl dL_law_780 ?_
    refine z_i2l X hz1 hz2 dL_law_782 ?_
    refine z_lcmp X (by omega) (by omega) dL_law_783 (fun z hz => ?_)
    have z0 : z = 0 := by omega
    refine z_if_eq X (tgt := 789) (by omega) dL_law_784 (by decide) (fun _ => ?_) (fun h7 => absurd z0 h7)
    refine z_goto X (tgt := 1234) dL_law_789 (by decide) ?_
    exact z_sub [2, 3, 4, 5, 6] rfl (nxt u.1 v u.2 _ _ hA9 (by omega) (by omega))
theorem a_part {U V : Type} [Lean.Grind.CommRing U] [Lean.Grind.CommRing V] {cu : U → Nat → FP} {ca : V → Nat → U} (HU : mp_P cu) (HA : mp_P ca) {p : Program} {l : Launch} (hl9 : l.stackTraces = false) {e : Env} {R : Room} {s : State} {m : MethodId} {args : Array Value} {below : List Frame} {meth : Method} {c : Code} {D : va_G} {ad sa : Nat → Nat} {A : Nat → Prop} {Q : State → Prop} {cI cO cJ : ClassId} (X : zCx p s m args meth c cL_law 7 RL (some .boolean) D (zTy3 cI cO cJ) 438 ad A) (XX : zX A sa s) (XL : zLx s) {b L : Nat} {xs : Nat → Int32} (hX : va_X b L xs s s.heap) (hbl : b < s.heap.size) (hbA : ¬ A b) (hL : L ≤ 320) {i : Int} (i0 : 0 ≤ i) (iL : i + 5 ≤ L) {cells slots : Nat} (hR : cells + 4 ≤ R.cells ∧ slots + 24 ≤ R.slots ∧ 12 ≤ R.frames ∧ 1000 ≤ R.locals) {S : zS} {M : zM} {f : Nat → Int64} (hA : zAg cu ca S M) (nxt : ∀ (S9 : zS) (M9 : zM) (f9 : Nat → Int64) (cells9 slots9 : Nat), zAg cu ca S9 M9 → cells9 ≤ cells + 4 → slots9 ≤ slots + 24 → Z p l e R s m args below meth c 7 D 438 ad A cells9 slots9 Q 1234 [(4, .int (iZ i)), (3, .ref (ad 437)), (2, .ref (ad 419)), (1, .ref (ad 0)), (0, .ref b)] [] (gL ad cI cO cJ S9 M9 f9)) : Z p l e R s m args below meth c 7 D 438 ad A cells slots Q 792 [(4, .int (iZ i)), (3, .ref (ad 437)), (2, .ref (ad 419)), (1, .ref (ad 0)), (0, .ref b)] [] (gL ad cI cO cJ S M f) := by
  obtain ⟨EL, md, kd, sA, sB, W, sD, cd, hC, hG, hJ⟩ := id hA
  have hmd := zC_md hC
  refine z_aload_n X 3 rfl rfl dL_law_792 ?_
  refine z_aload_n X 4 rfl rfl dL_law_793 ?_
  refine z_iload X 0 rfl dL_law_794 ?_
  refine z_iconst X (n := 1) dL_law_796 ?_
  refine z_iadd X dL_law_797 ?_
  refine z_sld X hX hbl hbA (by omega) (by omega) hL dL_law_798 ?_
  refine z_aload_n X 4 rfl rfl dL_law_799 ?_
  refine z_iload X 0 rfl dL_law_800 ?_
  refine z_iconst X (n := 2) dL_law_802 ?_
  refine z_iadd X dL_law_803 ?_
  refine z_sld X hX hbl hbA (by omega) (by omega) hL dL_law_804 ?_
  refine z_aload_n X 1 rfl rfl dL_law_805 ?_
  refine z_callL X XX XL (n' := 4) (maxL' := 5) (hh := [(0, 10, 13, 25), (0, 10, 17, 13), (0, 10, 21, 27)]) (List.mem_of_getElem? (i := 10) rfl) zw0 ⟨by decide +kernel, by decide +kernel⟩ (by decide +kernel) zw610 zw609 ⟨by omega, by omega, by omega, by omega⟩ [.ref (ad 0), .int (iZ (xs (i + 1).toNat).toInt), .int (iZ (xs (i + 2).toNat).toInt), .ref (ad 437)] (w_part l M f (c_X3_part HU HA l hl9 hC (xb _) (xb _)) (fun z u h => by rcases h with ⟨_, _, _, h1, _⟩ <;> omega) (fun E u h => by rcases h.2 with ⟨h, -⟩ | ⟨h, -⟩ | ⟨h, -⟩ <;> simp [h])) rfl rfl (Nat.le_of_ble_eq_true rfl) dL_law_806 (fun r u hw => ?_)
  refine z_istore X [(5, .int (iZ r)), (4, .int (iZ i)), (3, .ref (ad 437)), (2, .ref (ad 419)), (1, .ref (ad 0)), (0, .ref b)] rfl (by decide) dL_law_809 ?_
  refine z_aload_n X 3 rfl rfl dL_law_811 ?_
  refine z_aload_n X 5 rfl rfl dL_law_812 ?_
  refine z_iload X 1 rfl dL_law_813 ?_
  refine z_iconst X (n := 1) dL_law_815 ?_
  refine z_iadd X dL_law_816 ?_
  refine z_sld X hX hbl hbA (by omega) (by omega) hL dL_law_817 ?_
  refine z_aload_n X 5 rfl rfl dL_law_818 ?_
  refine z_iload X 1 rfl dL_law_819 ?_
  refine z_iconst X (n := 2) dL_law_821 ?_
  refine z_iadd X dL_law_822 ?_
  refine z_sld X hX hbl hbA (by omega) (by omega) hL dL_law_823 ?_
  refine z_callVi X zm_X4_part zw889 zw890 zw888 ⟨by omega, by omega, by omega, by omega⟩ [.int (iZ (xs (i + 1).toNat).toInt), .int (iZ (xs (i + 2).toNat).toInt)] (zMi_LM (F := fun w => w) (c_X4_part HU HA l hG (fun n h0 h1 => (zC_nf hC h0 h1).2) (xb _) (xb _))) rfl rfl (Nat.le_of_ble_eq_true rfl) (by omega) ((gL_M (k := 0) (by omega)).trans gM_O) (q := vwCl[6]) rfl rfl dL_law_824 (fun zr v hm => ?_)
  refine z_istore X [(6, .int (iZ zr)), (5, .int (iZ r)), (4, .int (iZ i)), (3, .ref (ad 437)), (2, .ref (ad 419)), (1, .ref (ad 0)), (0, .ref b)] rfl (by decide) dL_law_827 ?_
  have ag := ag_part HU HA hC hJ (xb _) (xb _) hw hm
  have hr : 0 ≤ r ∧ r ≤ 3 := by
    rcases hw with ⟨h, -⟩ | ⟨E, -, h⟩
    · omega
    · have := xc_rng ["java/lang/IndexOutOfBoundsException", "java/lang/IllegalStateException", "java/lang/IllegalArgumentException"] E
      rw [← h] at this
      have h9 : ((["java/lang/IndexOutOfBoundsException", "java/lang/IllegalStateException", "java/lang/IllegalArgumentException"] : List String).length : Int) ≤ 3 := by decide
      omega
  obtain ⟨hA9, hcd, hres⟩ := ag
  refine z_aload_n X 4 rfl rfl dL_law_829 ?_
  refine z_callVi X zm_X4_thrown zw736 zw737 zw735 ⟨by omega, by omega, by omega, by omega⟩ [] (zMi_LM (F := fun _ : Unit => v) (c_X4_thrown l v hcd)) rfl rfl (Nat.le_of_ble_eq_true rfl) (by omega) ((gL_M (k := 0) (by omega)).trans gM_O) (q := vwCl[6]) rfl rfl dL_law_830 (fun zt _ ht => ?_)
  rw [show zt = r from ht]
  refine z_iload X 1 rfl dL_law_833 ?_
  refine z_icmp_eq X (tgt := 840) (by omega) (by omega) dL_law_835 (by decide) (fun _ => ?_) (fun h9 => absurd rfl h9)
  refine z_iload X 1 rfl dL_law_840 ?_
  refine z_if_ne X (tgt := 857) (by omega) dL_law_842 (by decide) (fun _ => ?_) (fun h9 => ?_)
  · refine z_goto X (tgt := 1234) dL_law_857 (by decide) ?_
    exact z_sub [2, 3, 4, 5, 6] rfl (nxt u.1 v u.2 _ _ hA9 (by omega) (by omega))
  · have h8 : r = 0 := by omega
    obtain ⟨ho, hz1, hz2⟩ := hres h8
    refine z_aload_n X 3 rfl rfl dL_law_845 ?_
    refine z_iconst X (n := 0) dL_law_846 ?_
    refine z_lald X 437 2 (by omega) gL_f rfl (by omega) (by omega) (by omega) dL_law_847 ?_
    refine z_stq (st9 := [.long (lZ zr)]) (by rw [← ho]; rfl) ?_
    refine z_iload X 0 rfl dL_law_848 ?_
    refine z_i2l X hz1 hz2 dL_law_850 ?_
    refine z_lcmp X (by omega) (by omega) dL_law_851 (fun z hz => ?_)
    have z0 : z = 0 := by omega
    refine z_if_eq X (tgt := 857) (by omega) dL_law_852 (by decide) (fun _ => ?_) (fun h7 => absurd z0 h7)
    refine z_goto X (tgt := 1234) dL_law_857 (by decide) ?_
    exact z_sub [2, 3, 4, 5, 6] rfl (nxt u.1 v u.2 _ _ hA9 (by omega) (by omega))
theorem a_common {U V : Type} [Lean.Grind.CommRing U] [Lean.Grind.CommRing V] {cu : U → Nat → FP} {ca : V → Nat → U} (HU : mp_P cu) (HA : mp_P ca) {p : Program} {l : Launch} (hl9 : l.stackTraces = false) {e : Env} {R : Room} {s : State} {m : MethodId} {args : Array Value} {below : List Frame} {meth : Method} {c : Code} {D : va_G} {ad sa : Nat → Nat} {A : Nat → Prop} {Q : State → Prop} {cI cO cJ : ClassId} (X : zCx p s m args meth c cL_law 7 RL (some .boolean) D (zTy3 cI cO cJ) 438 ad A) (XX : zX A sa s) (XL : zLx s) {b L : Nat} {xs : Nat → Int32} (hX : va_X b L xs s s.heap) (hbl : b < s.heap.size) (hbA : ¬ A b) (hL : L ≤ 320) {i : Int} (i0 : 0 ≤ i) (iL : i + 5 ≤ L) {cells slots : Nat} (hR : cells + 4 ≤ R.cells ∧ slots + 24 ≤ R.slots ∧ 12 ≤ R.frames ∧ 1000 ≤ R.locals) {S : zS} {M : zM} {f : Nat → Int64} (hA : zAg cu ca S M) (nxt : ∀ (S9 : zS) (M9 : zM) (f9 : Nat → Int64) (cells9 slots9 : Nat), zAg cu ca S9 M9 → cells9 ≤ cells + 4 → slots9 ≤ slots + 24 → Z p l e R s m args below meth c 7 D 438 ad A cells9 slots9 Q 1234 [(4, .int (iZ i)), (3, .ref (ad 437)), (2, .ref (ad 419)), (1, .ref (ad 0)), (0, .ref b)] [] (gL ad cI cO cJ S9 M9 f9)) : Z p l e R s m args below meth c 7 D 438 ad A cells slots Q 860 [(4, .int (iZ i)), (3, .ref (ad 437)), (2, .ref (ad 419)), (1, .ref (ad 0)), (0, .ref b)] [] (gL ad cI cO cJ S M f) := by
  obtain ⟨EL, md, kd, sA, sB, W, sD, cd, hC, hG, hJ⟩ := id hA
  have hmd := zC_md hC
  refine z_aload_n X 3 rfl rfl dL_law_860 ?_
  refine z_aload_n X 4 rfl rfl dL_law_861 ?_
  refine z_iload X 0 rfl dL_law_862 ?_
  refine z_iconst X (n := 1) dL_law_864 ?_
  refine z_iadd X dL_law_865 ?_
  refine z_sld X hX hbl hbA (by omega) (by omega) hL dL_law_866 ?_
  refine z_aload_n X 4 rfl rfl dL_law_867 ?_
  refine z_iload X 0 rfl dL_law_868 ?_
  refine z_iconst X (n := 2) dL_law_870 ?_
  refine z_iadd X dL_law_871 ?_
  refine z_sld X hX hbl hbA (by omega) (by omega) hL dL_law_872 ?_
  refine z_aload_n X 1 rfl rfl dL_law_873 ?_
  refine z_callL X XX XL (n' := 4) (maxL' := 5) (hh := [(0, 10, 13, 25), (0, 10, 17, 13)]) (List.mem_of_getElem? (i := 11) rfl) zw0 ⟨by decide +kernel, by decide +kernel⟩ (by decide +kernel) zw628 zw627 ⟨by omega, by omega, by omega, by omega⟩ [.ref (ad 0), .int (iZ (xs (i + 1).toNat).toInt), .int (iZ (xs (i + 2).toNat).toInt), .ref (ad 437)] (w_common l M f (c_X3_common HU HA l hl9 hC (xb _) (xb _)) (fun z u h => by rcases h with ⟨_, _, _, h1, _⟩ <;> omega) (fun E u h => by rcases h.2 with ⟨h, -⟩ | ⟨h, -⟩ <;> simp [h])) rfl rfl (Nat.le_of_ble_eq_true rfl) dL_law_874 (fun r u hw => ?_)
  refine z_istore X [(5, .int (iZ r)), (4, .int (iZ i)), (3, .ref (ad 437)), (2, .ref (ad 419)), (1, .ref (ad 0)), (0, .ref b)] rfl (by decide) dL_law_877 ?_
  refine z_aload_n X 3 rfl rfl dL_law_879 ?_
  refine z_aload_n X 5 rfl rfl dL_law_880 ?_
  refine z_iload X 1 rfl dL_law_881 ?_
  refine z_iconst X (n := 1) dL_law_883 ?_
  refine z_iadd X dL_law_884 ?_
  refine z_sld X hX hbl hbA (by omega) (by omega) hL dL_law_885 ?_
  refine z_aload_n X 5 rfl rfl dL_law_886 ?_
  refine z_iload X 1 rfl dL_law_887 ?_
  refine z_iconst X (n := 2) dL_law_889 ?_
  refine z_iadd X dL_law_890 ?_
  refine z_sld X hX hbl hbA (by omega) (by omega) hL dL_law_891 ?_
  refine z_callVi X zm_X4_common zw873 zw874 zw872 ⟨by omega, by omega, by omega, by omega⟩ [.int (iZ (xs (i + 1).toNat).toInt), .int (iZ (xs (i + 2).toNat).toInt)] (zMi_LM (F := fun w => w) (c_X4_common HU HA l hG (xb _) (xb _))) rfl rfl (Nat.le_of_ble_eq_true rfl) (by omega) ((gL_M (k := 0) (by omega)).trans gM_O) (q := vwCl[6]) rfl rfl dL_law_892 (fun zr v hm => ?_)
  refine z_istore X [(6, .int (iZ zr)), (5, .int (iZ r)), (4, .int (iZ i)), (3, .ref (ad 437)), (2, .ref (ad 419)), (1, .ref (ad 0)), (0, .ref b)] rfl (by decide) dL_law_895 ?_
  have ag := ag_common HU HA hC hJ (xb _) (xb _) hw hm
  have hr : 0 ≤ r ∧ r ≤ 3 := by
    rcases hw with ⟨h, -⟩ | ⟨E, -, h⟩
    · omega
    · have := xc_rng ["java/lang/IndexOutOfBoundsException", "java/lang/IllegalStateException"] E
      rw [← h] at this
      have h9 : ((["java/lang/IndexOutOfBoundsException", "java/lang/IllegalStateException"] : List String).length : Int) ≤ 3 := by decide
      omega
  obtain ⟨hA9, hcd, hres⟩ := ag
  refine z_aload_n X 4 rfl rfl dL_law_897 ?_
  refine z_callVi X zm_X4_thrown zw736 zw737 zw735 ⟨by omega, by omega, by omega, by omega⟩ [] (zMi_LM (F := fun _ : Unit => v) (c_X4_thrown l v hcd)) rfl rfl (Nat.le_of_ble_eq_true rfl) (by omega) ((gL_M (k := 0) (by omega)).trans gM_O) (q := vwCl[6]) rfl rfl dL_law_898 (fun zt _ ht => ?_)
  rw [show zt = r from ht]
  refine z_iload X 1 rfl dL_law_901 ?_
  refine z_icmp_eq X (tgt := 908) (by omega) (by omega) dL_law_903 (by decide) (fun _ => ?_) (fun h9 => absurd rfl h9)
  refine z_iload X 1 rfl dL_law_908 ?_
  refine z_if_ne X (tgt := 925) (by omega) dL_law_910 (by decide) (fun _ => ?_) (fun h9 => ?_)
  · refine z_goto X (tgt := 1234) dL_law_925 (by decide) ?_
    exact z_sub [2, 3, 4, 5, 6] rfl (nxt u.1 v u.2 _ _ hA9 (by omega) (by omega))
  · have h8 : r = 0 := by omega
    obtain ⟨ho, hz1, hz2⟩ := hres h8
    refine z_aload_n X 3 rfl rfl dL_law_913 ?_
    refine z_iconst X (n := 0) dL_law_914 ?_
    refine z_lald X 437 2 (by omega) gL_f rfl (by omega) (by omega) (by omega) dL_law_915 ?_
    refine z_stq (st9 := [.long (lZ zr)]) (by rw [← ho]; rfl) ?_
    refine z_iload X 0 rfl dL_law_916 ?_
    refine z_i2l X hz1 hz2 dL_law_918 ?_
    refine z_lcmp X (by omega) (by omega) dL_law_919 (fun z hz => ?_)
    have z0 : z = 0 := by omega
    refine z_if_eq X (tgt := 925) (by omega) dL_law_920 (by decide) (fun _ => ?_) (fun h7 => absurd z0 h7)
    refine z_goto X (tgt := 1234) dL_law_925 (by decide) ?_
    exact z_sub [2, 3, 4, 5, 6] rfl (nxt u.1 v u.2 _ _ hA9 (by omega) (by omega))
theorem a_same {U V : Type} [Lean.Grind.CommRing U] [Lean.Grind.CommRing V] {cu : U → Nat → FP} {ca : V → Nat → U} (HU : mp_P cu) (HA : mp_P ca) {p : Program} {l : Launch} (hl9 : l.stackTraces = false) {e : Env} {R : Room} {s : State} {m : MethodId} {args : Array Value} {below : List Frame} {meth : Method} {c : Code} {D : va_G} {ad sa : Nat → Nat} {A : Nat → Prop} {Q : State → Prop} {cI cO cJ : ClassId} (X : zCx p s m args meth c cL_law 7 RL (some .boolean) D (zTy3 cI cO cJ) 438 ad A) (XX : zX A sa s) (XL : zLx s) {b L : Nat} {xs : Nat → Int32} (hX : va_X b L xs s s.heap) (hbl : b < s.heap.size) (hbA : ¬ A b) (hL : L ≤ 320) {i : Int} (i0 : 0 ≤ i) (iL : i + 5 ≤ L) {cells slots : Nat} (hR : cells + 4 ≤ R.cells ∧ slots + 24 ≤ R.slots ∧ 12 ≤ R.frames ∧ 1000 ≤ R.locals) {S : zS} {M : zM} {f : Nat → Int64} (hA : zAg cu ca S M) (nxt : ∀ (S9 : zS) (M9 : zM) (f9 : Nat → Int64) (cells9 slots9 : Nat), zAg cu ca S9 M9 → cells9 ≤ cells + 4 → slots9 ≤ slots + 24 → Z p l e R s m args below meth c 7 D 438 ad A cells9 slots9 Q 1234 [(4, .int (iZ i)), (3, .ref (ad 437)), (2, .ref (ad 419)), (1, .ref (ad 0)), (0, .ref b)] [] (gL ad cI cO cJ S9 M9 f9)) : Z p l e R s m args below meth c 7 D 438 ad A cells slots Q 928 [(4, .int (iZ i)), (3, .ref (ad 437)), (2, .ref (ad 419)), (1, .ref (ad 0)), (0, .ref b)] [] (gL ad cI cO cJ S M f) := by
  obtain ⟨EL, md, kd, sA, sB, W, sD, cd, hC, hG, hJ⟩ := id hA
  have hmd := zC_md hC
  refine z_aload_n X 3 rfl rfl dL_law_928 ?_
  refine z_aload_n X 4 rfl rfl dL_law_929 ?_
  refine z_iload X 0 rfl dL_law_930 ?_
  refine z_iconst X (n := 1) dL_law_932 ?_
  refine z_iadd X dL_law_933 ?_
  refine z_sld X hX hbl hbA (by omega) (by omega) hL dL_law_934 ?_
  refine z_aload_n X 4 rfl rfl dL_law_935 ?_
  refine z_iload X 0 rfl dL_law_936 ?_
  refine z_iconst X (n := 2) dL_law_938 ?_
  refine z_iadd X dL_law_939 ?_
  refine z_sld X hX hbl hbA (by omega) (by omega) hL dL_law_940 ?_
  refine z_aload_n X 1 rfl rfl dL_law_941 ?_
  refine z_callL X XX XL (n' := 4) (maxL' := 5) (hh := [(0, 17, 20, 25)]) (List.mem_of_getElem? (i := 12) rfl) zw0 ⟨by decide +kernel, by decide +kernel⟩ (by decide +kernel) zw635 zw634 ⟨by omega, by omega, by omega, by omega⟩ [.ref (ad 0), .int (iZ (xs (i + 1).toNat).toInt), .int (iZ (xs (i + 2).toNat).toInt), .ref (ad 437)] (w_same l M f (c_X3_same HU HA l hl9 hC (xb _) (xb _)) (fun z u h => by rcases h with ⟨_, _, h1, _⟩ <;> (rw [h1]; exact ag_01)) (fun E u h => h.2.1)) rfl rfl (Nat.le_of_ble_eq_true rfl) dL_law_942 (fun r u hw => ?_)
  refine z_istore X [(5, .int (iZ r)), (4, .int (iZ i)), (3, .ref (ad 437)), (2, .ref (ad 419)), (1, .ref (ad 0)), (0, .ref b)] rfl (by decide) dL_law_945 ?_
  refine z_aload_n X 3 rfl rfl dL_law_947 ?_
  refine z_aload_n X 5 rfl rfl dL_law_948 ?_
  refine z_iload X 1 rfl dL_law_949 ?_
  refine z_iconst X (n := 1) dL_law_951 ?_
  refine z_iadd X dL_law_952 ?_
  refine z_sld X hX hbl hbA (by omega) (by omega) hL dL_law_953 ?_
  refine z_aload_n X 5 rfl rfl dL_law_954 ?_
  refine z_iload X 1 rfl dL_law_955 ?_
  refine z_iconst X (n := 2) dL_law_957 ?_
  refine z_iadd X dL_law_958 ?_
  refine z_sld X hX hbl hbA (by omega) (by omega) hL dL_law_959 ?_
  refine z_callVi X zm_X4_same zw897 zw898 zw896 ⟨by omega, by omega, by omega, by omega⟩ [.int (iZ (xs (i + 1).toNat).toInt), .int (iZ (xs (i + 2).toNat).toInt)] (zMi_LM (F := fun w => w) (c_X4_same HU HA l hG (xb _) (xb _))) rfl rfl (Nat.le_of_ble_eq_true rfl) (by omega) ((gL_M (k := 0) (by omega)).trans gM_O) (q := vwCl[6]) rfl rfl dL_law_960 (fun zr v hm => ?_)
  refine z_istore X [(6, .int (iZ zr)), (5, .int (iZ r)), (4, .int (iZ i)), (3, .ref (ad 437)), (2, .ref (ad 419)), (1, .ref (ad 0)), (0, .ref b)] rfl (by decide) dL_law_963 ?_
  have ag := ag_same HU HA hC hJ (xb _) (xb _) hw hm
  have hr : 0 ≤ r ∧ r ≤ 3 := by
    rcases hw with ⟨h, -⟩ | ⟨E, -, h⟩
    · omega
    · have := xc_rng ["java/lang/IndexOutOfBoundsException"] E
      rw [← h] at this
      have h9 : ((["java/lang/IndexOutOfBoundsException"] : List String).length : Int) ≤ 3 := by decide
      omega
  obtain ⟨hA9, hcd, hres⟩ := ag
  refine z_aload_n X 4 rfl rfl dL_law_965 ?_
  refine z_callVi X zm_X4_thrown zw736 zw737 zw735 ⟨by omega, by omega, by omega, by omega⟩ [] (zMi_LM (F := fun _ : Unit => v) (c_X4_thrown l v hcd)) rfl rfl (Nat.le_of_ble_eq_true rfl) (by omega) ((gL_M (k := 0) (by omega)).trans gM_O) (q := vwCl[6]) rfl rfl dL_law_966 (fun zt _ ht => ?_)
  rw [show zt = r from ht]
  refine z_iload X 1 rfl dL_law_969 ?_
  refine z_icmp_eq X (tgt := 976) (by omega) (by omega) dL_law_971 (by decide) (fun _ => ?_) (fun h9 => absurd rfl h9)
  refine z_iload X 1 rfl dL_law_976 ?_
  refine z_if_ne X (tgt := 1000) (by omega) dL_law_978 (by decide) (fun _ => ?_) (fun h9 => ?_)
  · refine z_goto X (tgt := 1234) dL_law_1000 (by decide) ?_
    exact z_sub [2, 3, 4, 5, 6] rfl (nxt u.1 v u.2 _ _ hA9 (by omega) (by omega))
  · have h8 : r = 0 := by omega
    obtain ⟨ho, hz1, hz2⟩ := hres h8
    refine z_aload_n X 3 rfl rfl dL_law_981 ?_
    refine z_iconst X (n := 0) dL_law_982 ?_
    refine z_lald X 437 2 (by omega) gL_f rfl (by omega) (by omega) (by omega) dL_law_983 ?_
    refine z_stq (st9 := [.long (lZ zr)]) (by rw [← ho]; rfl) ?_
    refine z_iload X 0 rfl dL_law_984 ?_
    have hb : zr = 0 ∨ zr = 1 := by
      rcases hm with ⟨-, hg⟩ | ⟨-, h7, -⟩
      · have := zGm_cd hg
        omega
      · rcases h7 with ⟨h7, -⟩ | ⟨h7, -⟩ <;> omega
    refine z_if_eq X (tgt := 993) (by omega) dL_law_986 (by decide) (fun h7 => ?_) (fun h7 => ?_)
    · refine z_lconst0 X dL_law_993 ?_
      refine z_lcmp X (by omega) (by omega) dL_law_994 (fun z hz => ?_)
      have z0 : z = 0 := by omega
      refine z_if_eq X (tgt := 1000) (by omega) dL_law_995 (by decide) (fun _ => ?_) (fun h7 => absurd z0 h7)
      refine z_goto X (tgt := 1234) dL_law_1000 (by decide) ?_
      exact z_sub [2, 3, 4, 5, 6] rfl (nxt u.1 v u.2 _ _ hA9 (by omega) (by omega))
    · have h6 : zr = 1 := by omega
      refine z_lconst1 X dL_law_989 ?_
      refine z_goto X (tgt := 994) dL_law_990 (by decide) ?_
      refine z_lcmp X (by omega) (by omega) dL_law_994 (fun z hz => ?_)
      have z0 : z = 0 := by omega
      refine z_if_eq X (tgt := 1000) (by omega) dL_law_995 (by decide) (fun _ => ?_) (fun h7 => absurd z0 h7)
      refine z_goto X (tgt := 1234) dL_law_1000 (by decide) ?_
      exact z_sub [2, 3, 4, 5, 6] rfl (nxt u.1 v u.2 _ _ hA9 (by omega) (by omega))
theorem a_constant {U V : Type} [Lean.Grind.CommRing U] [Lean.Grind.CommRing V] {cu : U → Nat → FP} {ca : V → Nat → U} (HU : mp_P cu) (HA : mp_P ca) {p : Program} {l : Launch} (hl9 : l.stackTraces = false) {e : Env} {R : Room} {s : State} {m : MethodId} {args : Array Value} {below : List Frame} {meth : Method} {c : Code} {D : va_G} {ad sa : Nat → Nat} {A : Nat → Prop} {Q : State → Prop} {cI cO cJ : ClassId} (X : zCx p s m args meth c cL_law 7 RL (some .boolean) D (zTy3 cI cO cJ) 438 ad A) (XX : zX A sa s) (XL : zLx s) {b L : Nat} {xs : Nat → Int32} (hX : va_X b L xs s s.heap) (hbl : b < s.heap.size) (hbA : ¬ A b) (hL : L ≤ 320) {i : Int} (i0 : 0 ≤ i) (iL : i + 5 ≤ L) {cells slots : Nat} (hR : cells + 4 ≤ R.cells ∧ slots + 24 ≤ R.slots ∧ 12 ≤ R.frames ∧ 1000 ≤ R.locals) {S : zS} {M : zM} {f : Nat → Int64} (hA : zAg cu ca S M) (nxt : ∀ (S9 : zS) (M9 : zM) (f9 : Nat → Int64) (cells9 slots9 : Nat), zAg cu ca S9 M9 → cells9 ≤ cells + 4 → slots9 ≤ slots + 24 → Z p l e R s m args below meth c 7 D 438 ad A cells9 slots9 Q 1234 [(4, .int (iZ i)), (3, .ref (ad 437)), (2, .ref (ad 419)), (1, .ref (ad 0)), (0, .ref b)] [] (gL ad cI cO cJ S9 M9 f9)) : Z p l e R s m args below meth c 7 D 438 ad A cells slots Q 1003 [(4, .int (iZ i)), (3, .ref (ad 437)), (2, .ref (ad 419)), (1, .ref (ad 0)), (0, .ref b)] [] (gL ad cI cO cJ S M f) := by
  obtain ⟨EL, md, kd, sA, sB, W, sD, cd, hC, hG, hJ⟩ := id hA
  have hmd := zC_md hC
  refine z_aload_n X 3 rfl rfl dL_law_1003 ?_
  refine z_aload_n X 4 rfl rfl dL_law_1004 ?_
  refine z_iload X 0 rfl dL_law_1005 ?_
  refine z_iconst X (n := 1) dL_law_1007 ?_
  refine z_iadd X dL_law_1008 ?_
  refine z_sld X hX hbl hbA (by omega) (by omega) hL dL_law_1009 ?_
  refine z_aload_n X 1 rfl rfl dL_law_1010 ?_
  refine z_callL X XX XL (n' := 3) (maxL' := 4) (hh := [(0, 16, 19, 25)]) (List.mem_of_getElem? (i := 13) rfl) zw0 ⟨by decide +kernel, by decide +kernel⟩ (by decide +kernel) zw642 zw641 ⟨by omega, by omega, by omega, by omega⟩ [.ref (ad 0), .int (iZ (xs (i + 1).toNat).toInt), .ref (ad 437)] (w_constant l M f (c_X3_constant HU HA l hl9 hC (xb _)) (fun z u h => by rcases h with ⟨_, h1, _⟩ <;> (rw [h1]; exact ag_01)) (fun E u h => h.2.1)) rfl rfl (Nat.le_of_ble_eq_true rfl) dL_law_1011 (fun r u hw => ?_)
  refine z_istore X [(5, .int (iZ r)), (4, .int (iZ i)), (3, .ref (ad 437)), (2, .ref (ad 419)), (1, .ref (ad 0)), (0, .ref b)] rfl (by decide) dL_law_1014 ?_
  refine z_aload_n X 3 rfl rfl dL_law_1016 ?_
  refine z_aload_n X 5 rfl rfl dL_law_1017 ?_
  refine z_iload X 1 rfl dL_law_1018 ?_
  refine z_iconst X (n := 1) dL_law_1020 ?_
  refine z_iadd X dL_law_1021 ?_
  refine z_sld X hX hbl hbA (by omega) (by omega) hL dL_law_1022 ?_
  refine z_callVi X zm_X4_constant zw901 zw902 zw900 ⟨by omega, by omega, by omega, by omega⟩ [.int (iZ (xs (i + 1).toNat).toInt)] (zMi_LM (F := fun w => w) (c_X4_constant HU HA l hG (xb _))) rfl rfl (Nat.le_of_ble_eq_true rfl) (by omega) ((gL_M (k := 0) (by omega)).trans gM_O) (q := vwCl[6]) rfl rfl dL_law_1023 (fun zr v hm => ?_)
  refine z_istore X [(6, .int (iZ zr)), (5, .int (iZ r)), (4, .int (iZ i)), (3, .ref (ad 437)), (2, .ref (ad 419)), (1, .ref (ad 0)), (0, .ref b)] rfl (by decide) dL_law_1026 ?_
  have ag := ag_constant HU HA hC hJ (xb _) hw hm
  have hr : 0 ≤ r ∧ r ≤ 3 := by
    rcases hw with ⟨h, -⟩ | ⟨E, -, h⟩
    · omega
    · have := xc_rng ["java/lang/IndexOutOfBoundsException"] E
      rw [← h] at this
      have h9 : ((["java/lang/IndexOutOfBoundsException"] : List String).length : Int) ≤ 3 := by decide
      omega
  obtain ⟨hA9, hcd, hres⟩ := ag
  refine z_aload_n X 4 rfl rfl dL_law_1028 ?_
  refine z_callVi X zm_X4_thrown zw736 zw737 zw735 ⟨by omega, by omega, by omega, by omega⟩ [] (zMi_LM (F := fun _ : Unit => v) (c_X4_thrown l v hcd)) rfl rfl (Nat.le_of_ble_eq_true rfl) (by omega) ((gL_M (k := 0) (by omega)).trans gM_O) (q := vwCl[6]) rfl rfl dL_law_1029 (fun zt _ ht => ?_)
  rw [show zt = r from ht]
  refine z_iload X 1 rfl dL_law_1032 ?_
  refine z_icmp_eq X (tgt := 1039) (by omega) (by omega) dL_law_1034 (by decide) (fun _ => ?_) (fun h9 => absurd rfl h9)
  refine z_iload X 1 rfl dL_law_1039 ?_
  refine z_if_ne X (tgt := 1063) (by omega) dL_law_1041 (by decide) (fun _ => ?_) (fun h9 => ?_)
  · refine z_goto X (tgt := 1234) dL_law_1063 (by decide) ?_
    exact z_sub [2, 3, 4, 5, 6] rfl (nxt u.1 v u.2 _ _ hA9 (by omega) (by omega))
  · have h8 : r = 0 := by omega
    obtain ⟨ho, hz1, hz2⟩ := hres h8
    refine z_aload_n X 3 rfl rfl dL_law_1044 ?_
    refine z_iconst X (n := 0) dL_law_1045 ?_
    refine z_lald X 437 2 (by omega) gL_f rfl (by omega) (by omega) (by omega) dL_law_1046 ?_
    refine z_stq (st9 := [.long (lZ zr)]) (by rw [← ho]; rfl) ?_
    refine z_iload X 0 rfl dL_law_1047 ?_
    have hb : zr = 0 ∨ zr = 1 := by
      rcases hm with ⟨-, hg⟩ | ⟨-, h7, -⟩
      · have := zGm_cd hg
        omega
      · rcases h7 with ⟨h7, -⟩ | ⟨h7, -⟩ <;> omega
    refine z_if_eq X (tgt := 1056) (by omega) dL_law_1049 (by decide) (fun h7 => ?_) (fun h7 => ?_)
    · refine z_lconst0 X dL_law_1056 ?_
      refine z_lcmp X (by omega) (by omega) dL_law_1057 (fun z hz => ?_)
      have z0 : z = 0 := by omega
      refine z_if_eq X (tgt := 1063) (by omega) dL_law_1058 (by decide) (fun _ => ?_) (fun h7 => absurd z0 h7)
      refine z_goto X (tgt := 1234) dL_law_1063 (by decide) ?_
      exact z_sub [2, 3, 4, 5, 6] rfl (nxt u.1 v u.2 _ _ hA9 (by omega) (by omega))
    · have h6 : zr = 1 := by omega
      refine z_lconst1 X dL_law_1052 ?_
      refine z_goto X (tgt := 1057) dL_law_1053 (by decide) ?_
      refine z_lcmp X (by omega) (by omega) dL_law_1057 (fun z hz => ?_)
      have z0 : z = 0 := by omega
      refine z_if_eq X (tgt := 1063) (by omega) dL_law_1058 (by decide) (fun _ => ?_) (fun h7 => absurd z0 h7)
      refine z_goto X (tgt := 1234) dL_law_1063 (by decide) ?_
      exact z_sub [2, 3, 4, 5, 6] rfl (nxt u.1 v u.2 _ _ hA9 (by omega) (by omega))
theorem a_low {U V : Type} [Lean.Grind.CommRing U] [Lean.Grind.CommRing V] {cu : U → Nat → FP} {ca : V → Nat → U} (HU : mp_P cu) (HA : mp_P ca) {p : Program} {l : Launch} (hl9 : l.stackTraces = false) {e : Env} {R : Room} {s : State} {m : MethodId} {args : Array Value} {below : List Frame} {meth : Method} {c : Code} {D : va_G} {ad sa : Nat → Nat} {A : Nat → Prop} {Q : State → Prop} {cI cO cJ : ClassId} (X : zCx p s m args meth c cL_law 7 RL (some .boolean) D (zTy3 cI cO cJ) 438 ad A) (XX : zX A sa s) (XL : zLx s) {b L : Nat} {xs : Nat → Int32} (hX : va_X b L xs s s.heap) (hbl : b < s.heap.size) (hbA : ¬ A b) (hL : L ≤ 320) {i : Int} (i0 : 0 ≤ i) (iL : i + 5 ≤ L) {cells slots : Nat} (hR : cells + 4 ≤ R.cells ∧ slots + 24 ≤ R.slots ∧ 12 ≤ R.frames ∧ 1000 ≤ R.locals) {S : zS} {M : zM} {f : Nat → Int64} (hA : zAg cu ca S M) (nxt : ∀ (S9 : zS) (M9 : zM) (f9 : Nat → Int64) (cells9 slots9 : Nat), zAg cu ca S9 M9 → cells9 ≤ cells + 4 → slots9 ≤ slots + 24 → Z p l e R s m args below meth c 7 D 438 ad A cells9 slots9 Q 1234 [(4, .int (iZ i)), (3, .ref (ad 437)), (2, .ref (ad 419)), (1, .ref (ad 0)), (0, .ref b)] [] (gL ad cI cO cJ S9 M9 f9)) : Z p l e R s m args below meth c 7 D 438 ad A cells slots Q 1066 [(4, .int (iZ i)), (3, .ref (ad 437)), (2, .ref (ad 419)), (1, .ref (ad 0)), (0, .ref b)] [] (gL ad cI cO cJ S M f) := by
  obtain ⟨EL, md, kd, sA, sB, W, sD, cd, hC, hG, hJ⟩ := id hA
  have hmd := zC_md hC
  refine z_aload_n X 3 rfl rfl dL_law_1066 ?_
  refine z_aload_n X 4 rfl rfl dL_law_1067 ?_
  refine z_iload X 0 rfl dL_law_1068 ?_
  refine z_iconst X (n := 1) dL_law_1070 ?_
  refine z_iadd X dL_law_1071 ?_
  refine z_sld X hX hbl hbA (by omega) (by omega) hL dL_law_1072 ?_
  refine z_aload_n X 1 rfl rfl dL_law_1073 ?_
  refine z_callL X XX XL (n' := 3) (maxL' := 4) (hh := [(0, 16, 19, 25)]) (List.mem_of_getElem? (i := 14) rfl) zw0 ⟨by decide +kernel, by decide +kernel⟩ (by decide +kernel) zw649 zw648 ⟨by omega, by omega, by omega, by omega⟩ [.ref (ad 0), .int (iZ (xs (i + 1).toNat).toInt), .ref (ad 437)] (w_low l M f (c_X3_low HU HA l hl9 hC (xb _)) (fun z u h => by rcases h with ⟨_, h1, _⟩ <;> (rw [h1]; exact ag_01)) (fun E u h => h.2.1)) rfl rfl (Nat.le_of_ble_eq_true rfl) dL_law_1074 (fun r u hw => ?_)
  refine z_istore X [(5, .int (iZ r)), (4, .int (iZ i)), (3, .ref (ad 437)), (2, .ref (ad 419)), (1, .ref (ad 0)), (0, .ref b)] rfl (by decide) dL_law_1077 ?_
  refine z_aload_n X 3 rfl rfl dL_law_1079 ?_
  refine z_aload_n X 5 rfl rfl dL_law_1080 ?_
  refine z_iload X 1 rfl dL_law_1081 ?_
  refine z_iconst X (n := 1) dL_law_1083 ?_
  refine z_iadd X dL_law_1084 ?_
  refine z_sld X hX hbl hbA (by omega) (by omega) hL dL_law_1085 ?_
  refine z_callVi X zm_X4_low zw905 zw906 zw904 ⟨by omega, by omega, by omega, by omega⟩ [.int (iZ (xs (i + 1).toNat).toInt)] (zMi_LM (F := fun w => w) (c_X4_low HU HA l hG (xb _))) rfl rfl (Nat.le_of_ble_eq_true rfl) (by omega) ((gL_M (k := 0) (by omega)).trans gM_O) (q := vwCl[6]) rfl rfl dL_law_1086 (fun zr v hm => ?_)
  refine z_istore X [(6, .int (iZ zr)), (5, .int (iZ r)), (4, .int (iZ i)), (3, .ref (ad 437)), (2, .ref (ad 419)), (1, .ref (ad 0)), (0, .ref b)] rfl (by decide) dL_law_1089 ?_
  have ag := ag_low HU HA hC hJ (xb _) hw hm
  have hr : 0 ≤ r ∧ r ≤ 3 := by
    rcases hw with ⟨h, -⟩ | ⟨E, -, h⟩
    · omega
    · have := xc_rng ["java/lang/IndexOutOfBoundsException"] E
      rw [← h] at this
      have h9 : ((["java/lang/IndexOutOfBoundsException"] : List String).length : Int) ≤ 3 := by decide
      omega
  obtain ⟨hA9, hcd, hres⟩ := ag
  refine z_aload_n X 4 rfl rfl dL_law_1091 ?_
  refine z_callVi X zm_X4_thrown zw736 zw737 zw735 ⟨by omega, by omega, by omega, by omega⟩ [] (zMi_LM (F := fun _ : Unit => v) (c_X4_thrown l v hcd)) rfl rfl (Nat.le_of_ble_eq_true rfl) (by omega) ((gL_M (k := 0) (by omega)).trans gM_O) (q := vwCl[6]) rfl rfl dL_law_1092 (fun zt _ ht => ?_)
  rw [show zt = r from ht]
  refine z_iload X 1 rfl dL_law_1095 ?_
  refine z_icmp_eq X (tgt := 1102) (by omega) (by omega) dL_law_1097 (by decide) (fun _ => ?_) (fun h9 => absurd rfl h9)
  refine z_iload X 1 rfl dL_law_1102 ?_
  refine z_if_ne X (tgt := 1126) (by omega) dL_law_1104 (by decide) (fun _ => ?_) (fun h9 => ?_)
  · refine z_goto X (tgt := 1234) dL_law_1126 (by decide) ?_
    exact z_sub [2, 3, 4, 5, 6] rfl (nxt u.1 v u.2 _ _ hA9 (by omega) (by omega))
  · have h8 : r = 0 := by omega
    obtain ⟨ho, hz1, hz2⟩ := hres h8
    refine z_aload_n X 3 rfl rfl dL_law_1107 ?_
    refine z_iconst X (n := 0) dL_law_1108 ?_
    refine z_lald X 437 2 (by omega) gL_f rfl (by omega) (by omega) (by omega) dL_law_1109 ?_
    refine z_stq (st9 := [.long (lZ zr)]) (by rw [← ho]; rfl) ?_
    refine z_iload X 0 rfl dL_law_1110 ?_
    have hb : zr = 0 ∨ zr = 1 := by
      rcases hm with ⟨-, hg⟩ | ⟨-, h7, -⟩
      · have := zGm_cd hg
        omega
      · rcases h7 with ⟨h7, -⟩ | ⟨h7, -⟩ <;> omega
    refine z_if_eq X (tgt := 1119) (by omega) dL_law_1112 (by decide) (fun h7 => ?_) (fun h7 => ?_)
    · refine z_lconst0 X dL_law_1119 ?_
      refine z_lcmp X (by omega) (by omega) dL_law_1120 (fun z hz => ?_)
      have z0 : z = 0 := by omega
      refine z_if_eq X (tgt := 1126) (by omega) dL_law_1121 (by decide) (fun _ => ?_) (fun h7 => absurd z0 h7)
      refine z_goto X (tgt := 1234) dL_law_1126 (by decide) ?_
      exact z_sub [2, 3, 4, 5, 6] rfl (nxt u.1 v u.2 _ _ hA9 (by omega) (by omega))
    · have h6 : zr = 1 := by omega
      refine z_lconst1 X dL_law_1115 ?_
      refine z_goto X (tgt := 1120) dL_law_1116 (by decide) ?_
      refine z_lcmp X (by omega) (by omega) dL_law_1120 (fun z hz => ?_)
      have z0 : z = 0 := by omega
      refine z_if_eq X (tgt := 1126) (by omega) dL_law_1121 (by decide) (fun _ => ?_) (fun h7 => absurd z0 h7)
      refine z_goto X (tgt := 1234) dL_law_1126 (by decide) ?_
      exact z_sub [2, 3, 4, 5, 6] rfl (nxt u.1 v u.2 _ _ hA9 (by omega) (by omega))
theorem a_at {U V : Type} [Lean.Grind.CommRing U] [Lean.Grind.CommRing V] {cu : U → Nat → FP} {ca : V → Nat → U} (HU : mp_P cu) (HA : mp_P ca) {p : Program} {l : Launch} (hl9 : l.stackTraces = false) {e : Env} {R : Room} {s : State} {m : MethodId} {args : Array Value} {below : List Frame} {meth : Method} {c : Code} {D : va_G} {ad sa : Nat → Nat} {A : Nat → Prop} {Q : State → Prop} {cI cO cJ : ClassId} (X : zCx p s m args meth c cL_law 7 RL (some .boolean) D (zTy3 cI cO cJ) 438 ad A) (XX : zX A sa s) (XL : zLx s) {b L : Nat} {xs : Nat → Int32} (hX : va_X b L xs s s.heap) (hbl : b < s.heap.size) (hbA : ¬ A b) (hL : L ≤ 320) {i : Int} (i0 : 0 ≤ i) (iL : i + 5 ≤ L) {cells slots : Nat} (hR : cells + 4 ≤ R.cells ∧ slots + 24 ≤ R.slots ∧ 12 ≤ R.frames ∧ 1000 ≤ R.locals) {S : zS} {M : zM} {f : Nat → Int64} (hA : zAg cu ca S M) (nxt : ∀ (S9 : zS) (M9 : zM) (f9 : Nat → Int64) (cells9 slots9 : Nat), zAg cu ca S9 M9 → cells9 ≤ cells + 4 → slots9 ≤ slots + 24 → Z p l e R s m args below meth c 7 D 438 ad A cells9 slots9 Q 1234 [(4, .int (iZ i)), (3, .ref (ad 437)), (2, .ref (ad 419)), (1, .ref (ad 0)), (0, .ref b)] [] (gL ad cI cO cJ S9 M9 f9)) : Z p l e R s m args below meth c 7 D 438 ad A cells slots Q 1129 [(4, .int (iZ i)), (3, .ref (ad 437)), (2, .ref (ad 419)), (1, .ref (ad 0)), (0, .ref b)] [] (gL ad cI cO cJ S M f) := by
  obtain ⟨EL, md, kd, sA, sB, W, sD, cd, hC, hG, hJ⟩ := id hA
  have hmd := zC_md hC
  refine z_aload_n X 3 rfl rfl dL_law_1129 ?_
  refine z_aload_n X 4 rfl rfl dL_law_1130 ?_
  refine z_iload X 0 rfl dL_law_1131 ?_
  refine z_iconst X (n := 1) dL_law_1133 ?_
  refine z_iadd X dL_law_1134 ?_
  refine z_sld X hX hbl hbA (by omega) (by omega) hL dL_law_1135 ?_
  refine z_aload_n X 4 rfl rfl dL_law_1136 ?_
  refine z_iload X 0 rfl dL_law_1137 ?_
  refine z_iconst X (n := 2) dL_law_1139 ?_
  refine z_iadd X dL_law_1140 ?_
  refine z_sld X hX hbl hbA (by omega) (by omega) hL dL_law_1141 ?_
  refine z_aload_n X 4 rfl rfl dL_law_1142 ?_
  refine z_iload X 0 rfl dL_law_1143 ?_
  refine z_iconst X (n := 3) dL_law_1145 ?_
  refine z_iadd X dL_law_1146 ?_
  refine z_sld X hX hbl hbA (by omega) (by omega) hL dL_law_1147 ?_
  refine z_aload_n X 4 rfl rfl dL_law_1148 ?_
  refine z_iload X 0 rfl dL_law_1149 ?_
  refine z_iconst X (n := 4) dL_law_1151 ?_
  refine z_iadd X dL_law_1152 ?_
  refine z_sld X hX hbl hbA (by omega) (by omega) hL dL_law_1153 ?_
  refine z_aload_n X 1 rfl rfl dL_law_1154 ?_
  refine z_callL X XX XL (n' := 6) (maxL' := 7) (hh := [(0, 14, 17, 25), (0, 14, 21, 27)]) (List.mem_of_getElem? (i := 15) rfl) zw0 ⟨by decide +kernel, by decide +kernel⟩ (by decide +kernel) zw656 zw655 ⟨by omega, by omega, by omega, by omega⟩ [.ref (ad 0), .int (iZ (xs (i + 1).toNat).toInt), .int (iZ (xs (i + 2).toNat).toInt), .int (iZ (xs (i + 3).toNat).toInt), .int (iZ (xs (i + 4).toNat).toInt), .ref (ad 437)] (w_at l M f (c_X3_at HU HA l hl9 hC (xb _) (xb _) (xb _) (xb _)) (fun z u h => by rcases h with ⟨_, _, _, h1, _⟩ <;> (rw [h1]; exact ⟨vz_lo _, vz_hi _⟩)) (fun E u h => by rcases h.2 with ⟨h, -⟩ | ⟨h, -⟩ | ⟨h, -⟩ <;> simp [h])) rfl rfl (Nat.le_of_ble_eq_true rfl) dL_law_1155 (fun r u hw => ?_)
  refine z_istore X [(5, .int (iZ r)), (4, .int (iZ i)), (3, .ref (ad 437)), (2, .ref (ad 419)), (1, .ref (ad 0)), (0, .ref b)] rfl (by decide) dL_law_1158 ?_
  refine z_aload_n X 3 rfl rfl dL_law_1160 ?_
  refine z_aload_n X 5 rfl rfl dL_law_1161 ?_
  refine z_iload X 1 rfl dL_law_1162 ?_
  refine z_iconst X (n := 1) dL_law_1164 ?_
  refine z_iadd X dL_law_1165 ?_
  refine z_sld X hX hbl hbA (by omega) (by omega) hL dL_law_1166 ?_
  refine z_aload_n X 5 rfl rfl dL_law_1167 ?_
  refine z_iload X 1 rfl dL_law_1168 ?_
  refine z_iconst X (n := 2) dL_law_1170 ?_
  refine z_iadd X dL_law_1171 ?_
  refine z_sld X hX hbl hbA (by omega) (by omega) hL dL_law_1172 ?_
  refine z_aload_n X 5 rfl rfl dL_law_1173 ?_
  refine z_iload X 1 rfl dL_law_1174 ?_
  refine z_iconst X (n := 3) dL_law_1176 ?_
  refine z_iadd X dL_law_1177 ?_
  refine z_sld X hX hbl hbA (by omega) (by omega) hL dL_law_1178 ?_
  refine z_aload_n X 5 rfl rfl dL_law_1179 ?_
  refine z_iload X 1 rfl dL_law_1180 ?_
  refine z_iconst X (n := 4) dL_law_1182 ?_
  refine z_iadd X dL_law_1183 ?_
  refine z_sld X hX hbl hbA (by omega) (by omega) hL dL_law_1184 ?_
  refine z_callVi X zm_X4_at zw909 zw910 zw908 ⟨by omega, by omega, by omega, by omega⟩ [.int (iZ (xs (i + 1).toNat).toInt), .int (iZ (xs (i + 2).toNat).toInt), .int (iZ (xs (i + 3).toNat).toInt), .int (iZ (xs (i + 4).toNat).toInt)] (zMi_LM (F := fun w => w) (c_X4_at HU HA l hG (xb _) (xb _) (xb _) (xb _))) rfl rfl (Nat.le_of_ble_eq_true rfl) (by omega) ((gL_M (k := 0) (by omega)).trans gM_O) (q := vwCl[6]) rfl rfl dL_law_1185 (fun zr v hm => ?_)
  refine z_istore X [(6, .int (iZ zr)), (5, .int (iZ r)), (4, .int (iZ i)), (3, .ref (ad 437)), (2, .ref (ad 419)), (1, .ref (ad 0)), (0, .ref b)] rfl (by decide) dL_law_1188 ?_
  have ag := ag_at HU HA hC hJ (xb _) (xb _) (xb _) (xb _) hw hm
  have hr : 0 ≤ r ∧ r ≤ 3 := by
    rcases hw with ⟨h, -⟩ | ⟨E, -, h⟩
    · omega
    · have := xc_rng ["java/lang/IndexOutOfBoundsException", "java/lang/IllegalArgumentException"] E
      rw [← h] at this
      have h9 : ((["java/lang/IndexOutOfBoundsException", "java/lang/IllegalArgumentException"] : List String).length : Int) ≤ 3 := by decide
      omega
  obtain ⟨hA9, hcd, hres⟩ := ag
  refine z_aload_n X 4 rfl rfl dL_law_1190 ?_
  refine z_callVi X zm_X4_thrown zw736 zw737 zw735 ⟨by omega, by omega, by omega, by omega⟩ [] (zMi_LM (F := fun _ : Unit => v) (c_X4_thrown l v hcd)) rfl rfl (Nat.le_of_ble_eq_true rfl) (by omega) ((gL_M (k := 0) (by omega)).trans gM_O) (q := vwCl[6]) rfl rfl dL_law_1191 (fun zt _ ht => ?_)
  rw [show zt = r from ht]
  refine z_iload X 1 rfl dL_law_1194 ?_
  refine z_icmp_eq X (tgt := 1201) (by omega) (by omega) dL_law_1196 (by decide) (fun _ => ?_) (fun h9 => absurd rfl h9)
  refine z_iload X 1 rfl dL_law_1201 ?_
  refine z_if_ne X (tgt := 1218) (by omega) dL_law_1203 (by decide) (fun _ => ?_) (fun h9 => ?_)
  · refine z_goto X (tgt := 1234) dL_law_1218 (by decide) ?_
    exact z_sub [2, 3, 4, 5, 6] rfl (nxt u.1 v u.2 _ _ hA9 (by omega) (by omega))
  · have h8 : r = 0 := by omega
    obtain ⟨ho, hz1, hz2⟩ := hres h8
    refine z_aload_n X 3 rfl rfl dL_law_1206 ?_
    refine z_iconst X (n := 0) dL_law_1207 ?_
    refine z_lald X 437 2 (by omega) gL_f rfl (by omega) (by omega) (by omega) dL_law_1208 ?_
    refine z_stq (st9 := [.long (lZ zr)]) (by rw [← ho]; rfl) ?_
    refine z_iload X 0 rfl dL_law_1209 ?_
    refine z_i2l X hz1 hz2 dL_law_1211 ?_
    refine z_lcmp X (by omega) (by omega) dL_law_1212 (fun z hz => ?_)
    have z0 : z = 0 := by omega
    refine z_if_eq X (tgt := 1218) (by omega) dL_law_1213 (by decide) (fun _ => ?_) (fun h7 => absurd z0 h7)
    refine z_goto X (tgt := 1234) dL_law_1218 (by decide) ?_
    exact z_sub [2, 3, 4, 5, 6] rfl (nxt u.1 v u.2 _ _ hA9 (by omega) (by omega))
theorem a_count {U V : Type} [Lean.Grind.CommRing U] [Lean.Grind.CommRing V] {cu : U → Nat → FP} {ca : V → Nat → U} (HU : mp_P cu) (HA : mp_P ca) {p : Program} {l : Launch} (hl9 : l.stackTraces = false) {e : Env} {R : Room} {s : State} {m : MethodId} {args : Array Value} {below : List Frame} {meth : Method} {c : Code} {D : va_G} {ad sa : Nat → Nat} {A : Nat → Prop} {Q : State → Prop} {cI cO cJ : ClassId} (X : zCx p s m args meth c cL_law 7 RL (some .boolean) D (zTy3 cI cO cJ) 438 ad A) (XX : zX A sa s) (XL : zLx s) {b L : Nat} {xs : Nat → Int32} (hX : va_X b L xs s s.heap) (hbl : b < s.heap.size) (hbA : ¬ A b) (hL : L ≤ 320) {i : Int} (i0 : 0 ≤ i) (iL : i + 5 ≤ L) {cells slots : Nat} (hR : cells + 4 ≤ R.cells ∧ slots + 24 ≤ R.slots ∧ 12 ≤ R.frames ∧ 1000 ≤ R.locals) {S : zS} {M : zM} {f : Nat → Int64} (hA : zAg cu ca S M) (nxt : ∀ (S9 : zS) (M9 : zM) (f9 : Nat → Int64) (cells9 slots9 : Nat), zAg cu ca S9 M9 → cells9 ≤ cells + 4 → slots9 ≤ slots + 24 → Z p l e R s m args below meth c 7 D 438 ad A cells9 slots9 Q 1234 [(4, .int (iZ i)), (3, .ref (ad 437)), (2, .ref (ad 419)), (1, .ref (ad 0)), (0, .ref b)] [] (gL ad cI cO cJ S9 M9 f9)) : Z p l e R s m args below meth c 7 D 438 ad A cells slots Q 1221 [(4, .int (iZ i)), (3, .ref (ad 437)), (2, .ref (ad 419)), (1, .ref (ad 0)), (0, .ref b)] [] (gL ad cI cO cJ S M f) := by
  obtain ⟨EL, md, kd, sA, sB, W, sD, cd, hC, hG, hJ⟩ := id hA
  have hmd := zC_md hC
  refine z_aload_n X 3 rfl rfl dL_law_1221 ?_
  refine z_callVi X zm_X3_count zw167 zw168 zw166 ⟨by omega, by omega, by omega, by omega⟩ [] (zMi_LC (c_X3_count l S (zC_mdS hC))) rfl rfl (Nat.le_of_ble_eq_true rfl) (by omega) ((gL_C (by omega)).trans gC_T) (q := vwCl[5]) rfl rfl dL_law_1222 (fun z1 _ h1 => ?_)
  rw [show z1 = md from h1]
  refine z_aload_n X 2 rfl rfl dL_law_1225 ?_
  refine z_callVi X zm_X4_count zw913 zw914 zw912 ⟨by omega, by omega, by omega, by omega⟩ [] (zMi_LM (F := fun w => w) (c_X4_count l M (zGm_md hG))) rfl rfl (Nat.le_of_ble_eq_true rfl) (by omega) ((gL_M (k := 0) (by omega)).trans gM_O) (q := vwCl[6]) rfl rfl dL_law_1226 (fun z2 v hv => ?_)
  rw [show z2 = md from hv.1, show v = fcode M 0 from hv.2]
  refine z_icmp_eq X (tgt := 1234) (by omega) (by omega) dL_law_1229 (by decide) (fun _ => ?_) (fun h9 => absurd rfl h9)
  exact nxt S _ f _ _ ⟨EL, md, kd, sA, sB, W, sD, 0, hC, zGm_code hG 0, hJ⟩ (by omega) (by omega)
