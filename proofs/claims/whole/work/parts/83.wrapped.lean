/-! the law's wrappers: what the class answers, or a number for what it throws -/
def xc : List String → String → Int
  | [], _ => 0
  | a :: t, E => if E = a then 1 else 1 + xc t E
theorem z_lvq {p : Program} {l : Launch} {e : Env} {R : Room} {s : State} {m : MethodId} {args : Array Value} {below : List Frame} {meth : Method} {c : Code} {nL : Nat} {D : va_G} {N : Nat} {ad : Nat → Nat} {A : Nat → Prop} {cells slots : Nat} {Q : State → Prop} {pc : Nat} {lv lv9 : List (Nat × Value)} {st : List Value} {g : Nat → va_E} (h : lv9 = lv) (k : Z p l e R s m args below meth c nL D N ad A cells slots Q pc lv9 st g) : Z p l e R s m args below meth c nL D N ad A cells slots Q pc lv st g := h ▸ k
theorem zx_Nc {s : State} (XL : zLx s) {E T : String} (h : (E, T) ∈ zNcl) : va_Nc E T s := XL.2 _ h
theorem zx_cast {A : Nat → Prop} {sa : Nat → Nat} {args : Array Value} {s : State} (XX : zX A sa s) {E T : String} (h : Cond.castable E T ∈ zThr) : (Cond.castable E T).before args s = true := va_Nw.use (zThr_t h).1 (XX.1 _ h)
theorem w_number (l : Launch) {D : va_G} {ad sa : Nat → Nat} {cI cO cJ : ClassId} {S : zS} (M : zM) (f : Nat → Int64) {n0 n1 : Int} {post : Int → zS → Prop} {px : String → zS → Prop} (h : zTi l yX3_number cX3_number 6 (some .int) 8 2 D (zTy cI cO) 419 ad sa [.ref (ad 0), .long (lZ n0), .long (lZ n1)] (gC ad cI cO S) (gC ad cI cO) post px) (hz : ∀ z u, post z u → -2147483648 ≤ z ∧ z < 2147483648) (hE : ∀ E u, px E u → E = "java/lang/IllegalStateException" ∨ E = "java/lang/ArithmeticException") : zLi l yL_number cL_number 7 [(0, 11, 14, 13), (0, 11, 18, 15)] 2 D (zTy3 cI cO cJ) 438 ad sa [.ref (ad 0), .long (lZ n0), .long (lZ n1), .ref (ad 437)] (gL ad cI cO cJ S M f) (fun u : zS × (Nat → Int64) => gL ad cI cO cJ u.1 M u.2) (fun r u => (r = 0 ∧ ∃ z, post z u.1 ∧ u.2 0 = lZ z) ∨ ∃ E, px E u.1 ∧ r = xc ["java/lang/IllegalStateException", "java/lang/ArithmeticException"] E) := by
  refine z_startL (by decide +kernel) (Nat.le_of_ble_eq_true rfl) ?_
  intro p e s m args below meth c A Q X XX XL ht fin
  refine z_lvq (lv9 := [(0, .ref (ad 0)), (1, .long (lZ n0)), (3, .long (lZ n1)), (5, .ref (ad 437))]) rfl ?_
  refine z_aload X 3 rfl dL_number_0 ?_
  refine z_iconst X (n := 0) dL_number_2 ?_
  refine z_aload_n X 0 rfl rfl dL_number_3 ?_
  refine z_lload_n X 1 rfl rfl dL_number_4 ?_
  refine z_lload_n X 2 rfl rfl dL_number_5 ?_
  refine z_callViH X XX zm_X3_number zw248 zw249 zw247 ⟨by decide, by decide, by decide, by decide⟩ [.long (lZ n0), .long (lZ n1)] (zTi_L (M := M) (f := f) (cJ := cJ) h) rfl rfl (Nat.le_of_ble_eq_true rfl) (by omega) ((gL_C (by omega)).trans gC_T) (q := vwCl[5]) rfl rfl dL_number_6 (fun E u hp => ?_) (fun z u hp => ?_)
  · rcases hE E u hp with rfl | rfl
    · refine ⟨[], ⟨0, 11, 14, 13⟩, [⟨0, 11, 18, 15⟩], "java/lang/IllegalStateException", ht.trans rfl, (fun z hz => absurd hz List.not_mem_nil), by decide, by decide, zw173, zx_cast XX (List.mem_of_getElem? (i := 17) rfl), fun q9 => ?_⟩
      refine z_astore X [(6, .ref q9), (0, .ref (ad 0)), (1, .long (lZ n0)), (3, .long (lZ n1)), (5, .ref (ad 437))] rfl (by decide) dL_number_14 ?_
      refine z_iconst X (n := 1) dL_number_16 ?_
      exact fin 1 (u, f) (by decide) (by decide) (Or.inr ⟨_, hp, by decide +kernel⟩) (fun _ _ => rfl) dL_number_17
    · refine ⟨[⟨0, 11, 14, 13⟩], ⟨0, 11, 18, 15⟩, [], "java/lang/ArithmeticException", ht.trans rfl, (fun z hz => (by rw [List.mem_singleton.mp hz]; exact Or.inr ⟨by decide, _, zw173, zx_Nc XL (List.mem_of_getElem? (i := 3) rfl)⟩)), by decide, by decide, zw174, zx_cast XX (List.mem_of_getElem? (i := 7) rfl), fun q9 => ?_⟩
      refine z_astore X [(6, .ref q9), (0, .ref (ad 0)), (1, .long (lZ n0)), (3, .long (lZ n1)), (5, .ref (ad 437))] rfl (by decide) dL_number_18 ?_
      refine z_iconst X (n := 2) dL_number_20 ?_
      exact fin 2 (u, f) (by decide) (by decide) (Or.inr ⟨_, hp, by decide +kernel⟩) (fun _ _ => rfl) dL_number_21
  · refine z_i2l X (hz z u hp).1 (hz z u hp).2 dL_number_9 ?_
    refine z_last X 437 2 (by omega) gL_f rfl (by omega) (by omega) (by omega) dL_number_10 ?_
    refine z_goto X (tgt := 22) dL_number_11 (by decide) ?_
    refine z_iconst X (n := 0) dL_number_22 ?_
    exact fin 0 (u, vp_updL f (0 : Int).toNat (lZ (z))) (by decide) (by decide) (Or.inl ⟨rfl, z, hp, by simp [vp_updL]⟩) (fun j hj => gL_set j hj) dL_number_23
theorem w_base (l : Launch) {D : va_G} {ad sa : Nat → Nat} {cI cO cJ : ClassId} {S : zS} (M : zM) (f : Nat → Int64) {post : Int → zS → Prop} {px : String → zS → Prop} (h : zTi l yX3_base cX3_base 1 (some .int) 8 1 D (zTy cI cO) 419 ad sa [.ref (ad 0)] (gC ad cI cO S) (gC ad cI cO) post px) (hz : ∀ z u, post z u → -2147483648 ≤ z ∧ z < 2147483648) (hE : ∀ E u, px E u → E = "java/lang/IllegalStateException") : zLi l yL_base cL_base 3 [(0, 8, 11, 13)] 1 D (zTy3 cI cO cJ) 438 ad sa [.ref (ad 0), .ref (ad 437)] (gL ad cI cO cJ S M f) (fun u : zS × (Nat → Int64) => gL ad cI cO cJ u.1 M u.2) (fun r u => (r = 0 ∧ ∃ z, post z u.1 ∧ u.2 0 = lZ z) ∨ ∃ E, px E u.1 ∧ r = xc ["java/lang/IllegalStateException"] E) := by
  refine z_startL (by decide +kernel) (Nat.le_of_ble_eq_true rfl) ?_
  intro p e s m args below meth c A Q X XX XL ht fin
  refine z_lvq (lv9 := [(0, .ref (ad 0)), (1, .ref (ad 437))]) rfl ?_
  refine z_aload_n X 1 rfl rfl dL_base_0 ?_
  refine z_iconst X (n := 0) dL_base_1 ?_
  refine z_aload_n X 0 rfl rfl dL_base_2 ?_
  refine z_callViH X XX zm_X3_base zw312 zw313 zw311 ⟨by decide, by decide, by decide, by decide⟩ [] (zTi_L (M := M) (f := f) (cJ := cJ) h) rfl rfl (Nat.le_of_ble_eq_true rfl) (by omega) ((gL_C (by omega)).trans gC_T) (q := vwCl[5]) rfl rfl dL_base_3 (fun E u hp => ?_) (fun z u hp => ?_)
  · rcases hE E u hp with rfl
    · refine ⟨[], ⟨0, 8, 11, 13⟩, [], "java/lang/IllegalStateException", ht.trans rfl, (fun z hz => absurd hz List.not_mem_nil), by decide, by decide, zw173, zx_cast XX (List.mem_of_getElem? (i := 17) rfl), fun q9 => ?_⟩
      refine z_astore_n X [(2, .ref q9), (0, .ref (ad 0)), (1, .ref (ad 437))] rfl rfl (by decide) dL_base_11 ?_
      refine z_iconst X (n := 1) dL_base_12 ?_
      exact fin 1 (u, f) (by decide) (by decide) (Or.inr ⟨_, hp, by decide +kernel⟩) (fun _ _ => rfl) dL_base_13
  · refine z_i2l X (hz z u hp).1 (hz z u hp).2 dL_base_6 ?_
    refine z_last X 437 2 (by omega) gL_f rfl (by omega) (by omega) (by omega) dL_base_7 ?_
    refine z_goto X (tgt := 14) dL_base_8 (by decide) ?_
    refine z_iconst X (n := 0) dL_base_14 ?_
    exact fin 0 (u, vp_updL f (0 : Int).toNat (lZ (z))) (by decide) (by decide) (Or.inl ⟨rfl, z, hp, by simp [vp_updL]⟩) (fun j hj => gL_set j hj) dL_base_15
theorem w_letter (l : Launch) {D : va_G} {ad sa : Nat → Nat} {cI cO cJ : ClassId} {S : zS} (M : zM) (f : Nat → Int64) {n0 n1 : Int} {post : Int → zS → Prop} {px : String → zS → Prop} (h : zTi l yX3_letter cX3_letter 3 (some .int) 8 4 D (zTy cI cO) 419 ad sa [.ref (ad 0), .int (iZ n0), .int (iZ n1)] (gC ad cI cO S) (gC ad cI cO) post px) (hz : ∀ z u, post z u → -2147483648 ≤ z ∧ z < 2147483648) (hE : ∀ E u, px E u → E = "java/lang/IndexOutOfBoundsException" ∨ E = "java/lang/IllegalStateException" ∨ E = "java/lang/IllegalArgumentException") : zLi l yL_letter cL_letter 5 [(0, 10, 13, 25), (0, 10, 17, 13), (0, 10, 21, 27)] 4 D (zTy3 cI cO cJ) 438 ad sa [.ref (ad 0), .int (iZ n0), .int (iZ n1), .ref (ad 437)] (gL ad cI cO cJ S M f) (fun u : zS × (Nat → Int64) => gL ad cI cO cJ u.1 M u.2) (fun r u => (r = 0 ∧ ∃ z, post z u.1 ∧ u.2 0 = lZ z) ∨ ∃ E, px E u.1 ∧ r = xc ["java/lang/IndexOutOfBoundsException", "java/lang/IllegalStateException", "java/lang/IllegalArgumentException"] E) := by
  refine z_startL (by decide +kernel) (Nat.le_of_ble_eq_true rfl) ?_
  intro p e s m args below meth c A Q X XX XL ht fin
  refine z_lvq (lv9 := [(0, .ref (ad 0)), (1, .int (iZ n0)), (2, .int (iZ n1)), (3, .ref (ad 437))]) rfl ?_
  refine z_aload_n X 3 rfl rfl dL_letter_0 ?_
  refine z_iconst X (n := 0) dL_letter_1 ?_
  refine z_aload_n X 0 rfl rfl dL_letter_2 ?_
  refine z_iload_n X 1 rfl rfl dL_letter_3 ?_
  refine z_iload_n X 2 rfl rfl dL_letter_4 ?_
  refine z_callViH X XX zm_X3_letter zw339 zw340 zw338 ⟨by decide, by decide, by decide, by decide⟩ [.int (iZ n0), .int (iZ n1)] (zTi_L (M := M) (f := f) (cJ := cJ) h) rfl rfl (Nat.le_of_ble_eq_true rfl) (by omega) ((gL_C (by omega)).trans gC_T) (q := vwCl[5]) rfl rfl dL_letter_5 (fun E u hp => ?_) (fun z u hp => ?_)
  · rcases hE E u hp with rfl | rfl | rfl
    · refine ⟨[], ⟨0, 10, 13, 25⟩, [⟨0, 10, 17, 13⟩, ⟨0, 10, 21, 27⟩], "java/lang/IndexOutOfBoundsException", ht.trans rfl, (fun z hz => absurd hz List.not_mem_nil), by decide, by decide, zw318, zx_cast XX (List.mem_of_getElem? (i := 23) rfl), fun q9 => ?_⟩
      refine z_astore X [(4, .ref q9), (0, .ref (ad 0)), (1, .int (iZ n0)), (2, .int (iZ n1)), (3, .ref (ad 437))] rfl (by decide) dL_letter_13 ?_
      refine z_iconst X (n := 1) dL_letter_15 ?_
      exact fin 1 (u, f) (by decide) (by decide) (Or.inr ⟨_, hp, by decide +kernel⟩) (fun _ _ => rfl) dL_letter_16
    · refine ⟨[⟨0, 10, 13, 25⟩], ⟨0, 10, 17, 13⟩, [⟨0, 10, 21, 27⟩], "java/lang/IllegalStateException", ht.trans rfl, (fun z hz => (by rw [List.mem_singleton.mp hz]; exact Or.inr ⟨by decide, _, zw318, zx_Nc XL (List.mem_of_getElem? (i := 1) rfl)⟩)), by decide, by decide, zw173, zx_cast XX (List.mem_of_getElem? (i := 17) rfl), fun q9 => ?_⟩
      refine z_astore X [(4, .ref q9), (0, .ref (ad 0)), (1, .int (iZ n0)), (2, .int (iZ n1)), (3, .ref (ad 437))] rfl (by decide) dL_letter_17 ?_
      refine z_iconst X (n := 2) dL_letter_19 ?_
      exact fin 2 (u, f) (by decide) (by decide) (Or.inr ⟨_, hp, by decide +kernel⟩) (fun _ _ => rfl) dL_letter_20
    · refine ⟨[⟨0, 10, 13, 25⟩, ⟨0, 10, 17, 13⟩], ⟨0, 10, 21, 27⟩, [], "java/lang/IllegalArgumentException", ht.trans rfl, (fun z hz => (by rcases List.mem_cons.mp hz with rfl | hz; exact Or.inr ⟨by decide, _, zw318, zx_Nc XL (List.mem_of_getElem? (i := 11) rfl)⟩; rw [List.mem_singleton.mp hz]; exact Or.inr ⟨by decide, _, zw173, zx_Nc XL (List.mem_of_getElem? (i := 9) rfl)⟩)), by decide, by decide, zw337, zx_cast XX (List.mem_of_getElem? (i := 29) rfl), fun q9 => ?_⟩
      refine z_astore X [(4, .ref q9), (0, .ref (ad 0)), (1, .int (iZ n0)), (2, .int (iZ n1)), (3, .ref (ad 437))] rfl (by decide) dL_letter_21 ?_
      refine z_iconst X (n := 3) dL_letter_23 ?_
      exact fin 3 (u, f) (by decide) (by decide) (Or.inr ⟨_, hp, by decide +kernel⟩) (fun _ _ => rfl) dL_letter_24
  · refine z_i2l X (hz z u hp).1 (hz z u hp).2 dL_letter_8 ?_
    refine z_last X 437 2 (by omega) gL_f rfl (by omega) (by omega) (by omega) dL_letter_9 ?_
    refine z_goto X (tgt := 25) dL_letter_10 (by decide) ?_
    refine z_iconst X (n := 0) dL_letter_25 ?_
    exact fin 0 (u, vp_updL f (0 : Int).toNat (lZ (z))) (by decide) (by decide) (Or.inl ⟨rfl, z, hp, by simp [vp_updL]⟩) (fun j hj => gL_set j hj) dL_letter_26
theorem w_top (l : Launch) {D : va_G} {ad sa : Nat → Nat} {cI cO cJ : ClassId} {S : zS} (M : zM) (f : Nat → Int64) {post : Int → zS → Prop} {px : String → zS → Prop} (h : zTi l yX3_top cX3_top 1 (some .int) 8 2 D (zTy cI cO) 419 ad sa [.ref (ad 0)] (gC ad cI cO S) (gC ad cI cO) post px) (hz : ∀ z u, post z u → -2147483648 ≤ z ∧ z < 2147483648) (hE : ∀ E u, px E u → E = "java/lang/IllegalStateException" ∨ E = "java/lang/IllegalArgumentException") : zLi l yL_top cL_top 3 [(0, 8, 11, 13), (0, 8, 14, 27)] 2 D (zTy3 cI cO cJ) 438 ad sa [.ref (ad 0), .ref (ad 437)] (gL ad cI cO cJ S M f) (fun u : zS × (Nat → Int64) => gL ad cI cO cJ u.1 M u.2) (fun r u => (r = 0 ∧ ∃ z, post z u.1 ∧ u.2 0 = lZ z) ∨ ∃ E, px E u.1 ∧ r = xc ["java/lang/IllegalStateException", "java/lang/IllegalArgumentException"] E) := by
  refine z_startL (by decide +kernel) (Nat.le_of_ble_eq_true rfl) ?_
  intro p e s m args below meth c A Q X XX XL ht fin
  refine z_lvq (lv9 := [(0, .ref (ad 0)), (1, .ref (ad 437))]) rfl ?_
  refine z_aload_n X 1 rfl rfl dL_top_0 ?_
  refine z_iconst X (n := 0) dL_top_1 ?_
  refine z_aload_n X 0 rfl rfl dL_top_2 ?_
  refine z_callViH X XX zm_X3_top zw539 zw540 zw538 ⟨by decide, by decide, by decide, by decide⟩ [] (zTi_L (M := M) (f := f) (cJ := cJ) h) rfl rfl (Nat.le_of_ble_eq_true rfl) (by omega) ((gL_C (by omega)).trans gC_T) (q := vwCl[5]) rfl rfl dL_top_3 (fun E u hp => ?_) (fun z u hp => ?_)
  · rcases hE E u hp with rfl | rfl
    · refine ⟨[], ⟨0, 8, 11, 13⟩, [⟨0, 8, 14, 27⟩], "java/lang/IllegalStateException", ht.trans rfl, (fun z hz => absurd hz List.not_mem_nil), by decide, by decide, zw173, zx_cast XX (List.mem_of_getElem? (i := 17) rfl), fun q9 => ?_⟩
      refine z_astore_n X [(2, .ref q9), (0, .ref (ad 0)), (1, .ref (ad 437))] rfl rfl (by decide) dL_top_11 ?_
      refine z_iconst X (n := 1) dL_top_12 ?_
      exact fin 1 (u, f) (by decide) (by decide) (Or.inr ⟨_, hp, by decide +kernel⟩) (fun _ _ => rfl) dL_top_13
    · refine ⟨[⟨0, 8, 11, 13⟩], ⟨0, 8, 14, 27⟩, [], "java/lang/IllegalArgumentException", ht.trans rfl, (fun z hz => (by rw [List.mem_singleton.mp hz]; exact Or.inr ⟨by decide, _, zw173, zx_Nc XL (List.mem_of_getElem? (i := 9) rfl)⟩)), by decide, by decide, zw337, zx_cast XX (List.mem_of_getElem? (i := 29) rfl), fun q9 => ?_⟩
      refine z_astore_n X [(2, .ref q9), (0, .ref (ad 0)), (1, .ref (ad 437))] rfl rfl (by decide) dL_top_14 ?_
      refine z_iconst X (n := 2) dL_top_15 ?_
      exact fin 2 (u, f) (by decide) (by decide) (Or.inr ⟨_, hp, by decide +kernel⟩) (fun _ _ => rfl) dL_top_16
  · refine z_i2l X (hz z u hp).1 (hz z u hp).2 dL_top_6 ?_
    refine z_last X 437 2 (by omega) gL_f rfl (by omega) (by omega) (by omega) dL_top_7 ?_
    refine z_goto X (tgt := 17) dL_top_8 (by decide) ?_
    refine z_iconst X (n := 0) dL_top_17 ?_
    exact fin 0 (u, vp_updL f (0 : Int).toNat (lZ (z))) (by decide) (by decide) (Or.inl ⟨rfl, z, hp, by simp [vp_updL]⟩) (fun j hj => gL_set j hj) dL_top_18
theorem w_add (l : Launch) {D : va_G} {ad sa : Nat → Nat} {cI cO cJ : ClassId} {S : zS} (M : zM) (f : Nat → Int64) {n0 n1 : Int} {post : Int → zS → Prop} {px : String → zS → Prop} (h : zTi l yX3_add cX3_add 3 (some .int) 8 4 D (zTy cI cO) 419 ad sa [.ref (ad 0), .int (iZ n0), .int (iZ n1)] (gC ad cI cO S) (gC ad cI cO) post px) (hz : ∀ z u, post z u → -2147483648 ≤ z ∧ z < 2147483648) (hE : ∀ E u, px E u → E = "java/lang/IndexOutOfBoundsException" ∨ E = "java/lang/IllegalStateException") : zLi l yL_add cL_add 5 [(0, 10, 13, 25), (0, 10, 17, 13)] 4 D (zTy3 cI cO cJ) 438 ad sa [.ref (ad 0), .int (iZ n0), .int (iZ n1), .ref (ad 437)] (gL ad cI cO cJ S M f) (fun u : zS × (Nat → Int64) => gL ad cI cO cJ u.1 M u.2) (fun r u => (r = 0 ∧ ∃ z, post z u.1 ∧ u.2 0 = lZ z) ∨ ∃ E, px E u.1 ∧ r = xc ["java/lang/IndexOutOfBoundsException", "java/lang/IllegalStateException"] E) := by
  refine z_startL (by decide +kernel) (Nat.le_of_ble_eq_true rfl) ?_
  intro p e s m args below meth c A Q X XX XL ht fin
  refine z_lvq (lv9 := [(0, .ref (ad 0)), (1, .int (iZ n0)), (2, .int (iZ n1)), (3, .ref (ad 437))]) rfl ?_
  refine z_aload_n X 3 rfl rfl dL_add_0 ?_
  refine z_iconst X (n := 0) dL_add_1 ?_
  refine z_aload_n X 0 rfl rfl dL_add_2 ?_
  refine z_iload_n X 1 rfl rfl dL_add_3 ?_
  refine z_iload_n X 2 rfl rfl dL_add_4 ?_
  refine z_callViH X XX zm_X3_add zw547 zw548 zw546 ⟨by decide, by decide, by decide, by decide⟩ [.int (iZ n0), .int (iZ n1)] (zTi_L (M := M) (f := f) (cJ := cJ) h) rfl rfl (Nat.le_of_ble_eq_true rfl) (by omega) ((gL_C (by omega)).trans gC_T) (q := vwCl[5]) rfl rfl dL_add_5 (fun E u hp => ?_) (fun z u hp => ?_)
  · rcases hE E u hp with rfl | rfl
    · refine ⟨[], ⟨0, 10, 13, 25⟩, [⟨0, 10, 17, 13⟩], "java/lang/IndexOutOfBoundsException", ht.trans rfl, (fun z hz => absurd hz List.not_mem_nil), by decide, by decide, zw318, zx_cast XX (List.mem_of_getElem? (i := 23) rfl), fun q9 => ?_⟩
      refine z_astore X [(4, .ref q9), (0, .ref (ad 0)), (1, .int (iZ n0)), (2, .int (iZ n1)), (3, .ref (ad 437))] rfl (by decide) dL_add_13 ?_
      refine z_iconst X (n := 1) dL_add_15 ?_
      exact fin 1 (u, f) (by decide) (by decide) (Or.inr ⟨_, hp, by decide +kernel⟩) (fun _ _ => rfl) dL_add_16
    · refine ⟨[⟨0, 10, 13, 25⟩], ⟨0, 10, 17, 13⟩, [], "java/lang/IllegalStateException", ht.trans rfl, (fun z hz => (by rw [List.mem_singleton.mp hz]; exact Or.inr ⟨by decide, _, zw318, zx_Nc XL (List.mem_of_getElem? (i := 1) rfl)⟩)), by decide, by decide, zw173, zx_cast XX (List.mem_of_getElem? (i := 17) rfl), fun q9 => ?_⟩
      refine z_astore X [(4, .ref q9), (0, .ref (ad 0)), (1, .int (iZ n0)), (2, .int (iZ n1)), (3, .ref (ad 437))] rfl (by decide) dL_add_17 ?_
      refine z_iconst X (n := 2) dL_add_19 ?_
      exact fin 2 (u, f) (by decide) (by decide) (Or.inr ⟨_, hp, by decide +kernel⟩) (fun _ _ => rfl) dL_add_20
  · refine z_i2l X (hz z u hp).1 (hz z u hp).2 dL_add_8 ?_
    refine z_last X 437 2 (by omega) gL_f rfl (by omega) (by omega) (by omega) dL_add_9 ?_
    refine z_goto X (tgt := 21) dL_add_10 (by decide) ?_
    refine z_iconst X (n := 0) dL_add_21 ?_
    exact fin 0 (u, vp_updL f (0 : Int).toNat (lZ (z))) (by decide) (by decide) (Or.inl ⟨rfl, z, hp, by simp [vp_updL]⟩) (fun j hj => gL_set j hj) dL_add_22
theorem w_less (l : Launch) {D : va_G} {ad sa : Nat → Nat} {cI cO cJ : ClassId} {S : zS} (M : zM) (f : Nat → Int64) {n0 n1 : Int} {post : Int → zS → Prop} {px : String → zS → Prop} (h : zTi l yX3_less cX3_less 3 (some .int) 8 4 D (zTy cI cO) 419 ad sa [.ref (ad 0), .int (iZ n0), .int (iZ n1)] (gC ad cI cO S) (gC ad cI cO) post px) (hz : ∀ z u, post z u → -2147483648 ≤ z ∧ z < 2147483648) (hE : ∀ E u, px E u → E = "java/lang/IndexOutOfBoundsException" ∨ E = "java/lang/IllegalStateException") : zLi l yL_less cL_less 5 [(0, 10, 13, 25), (0, 10, 17, 13)] 4 D (zTy3 cI cO cJ) 438 ad sa [.ref (ad 0), .int (iZ n0), .int (iZ n1), .ref (ad 437)] (gL ad cI cO cJ S M f) (fun u : zS × (Nat → Int64) => gL ad cI cO cJ u.1 M u.2) (fun r u => (r = 0 ∧ ∃ z, post z u.1 ∧ u.2 0 = lZ z) ∨ ∃ E, px E u.1 ∧ r = xc ["java/lang/IndexOutOfBoundsException", "java/lang/IllegalStateException"] E) := by
  refine z_startL (by decide +kernel) (Nat.le_of_ble_eq_true rfl) ?_
  intro p e s m args below meth c A Q X XX XL ht fin
  refine z_lvq (lv9 := [(0, .ref (ad 0)), (1, .int (iZ n0)), (2, .int (iZ n1)), (3, .ref (ad 437))]) rfl ?_
  refine z_aload_n X 3 rfl rfl dL_less_0 ?_
  refine z_iconst X (n := 0) dL_less_1 ?_
  refine z_aload_n X 0 rfl rfl dL_less_2 ?_
  refine z_iload_n X 1 rfl rfl dL_less_3 ?_
  refine z_iload_n X 2 rfl rfl dL_less_4 ?_
  refine z_callViH X XX zm_X3_less zw574 zw575 zw573 ⟨by decide, by decide, by decide, by decide⟩ [.int (iZ n0), .int (iZ n1)] (zTi_L (M := M) (f := f) (cJ := cJ) h) rfl rfl (Nat.le_of_ble_eq_true rfl) (by omega) ((gL_C (by omega)).trans gC_T) (q := vwCl[5]) rfl rfl dL_less_5 (fun E u hp => ?_) (fun z u hp => ?_)
  · rcases hE E u hp with rfl | rfl
    · refine ⟨[], ⟨0, 10, 13, 25⟩, [⟨0, 10, 17, 13⟩], "java/lang/IndexOutOfBoundsException", ht.trans rfl, (fun z hz => absurd hz List.not_mem_nil), by decide, by decide, zw318, zx_cast XX (List.mem_of_getElem? (i := 23) rfl), fun q9 => ?_⟩
      refine z_astore X [(4, .ref q9), (0, .ref (ad 0)), (1, .int (iZ n0)), (2, .int (iZ n1)), (3, .ref (ad 437))] rfl (by decide) dL_less_13 ?_
      refine z_iconst X (n := 1) dL_less_15 ?_
      exact fin 1 (u, f) (by decide) (by decide) (Or.inr ⟨_, hp, by decide +kernel⟩) (fun _ _ => rfl) dL_less_16
    · refine ⟨[⟨0, 10, 13, 25⟩], ⟨0, 10, 17, 13⟩, [], "java/lang/IllegalStateException", ht.trans rfl, (fun z hz => (by rw [List.mem_singleton.mp hz]; exact Or.inr ⟨by decide, _, zw318, zx_Nc XL (List.mem_of_getElem? (i := 1) rfl)⟩)), by decide, by decide, zw173, zx_cast XX (List.mem_of_getElem? (i := 17) rfl), fun q9 => ?_⟩
      refine z_astore X [(4, .ref q9), (0, .ref (ad 0)), (1, .int (iZ n0)), (2, .int (iZ n1)), (3, .ref (ad 437))] rfl (by decide) dL_less_17 ?_
      refine z_iconst X (n := 2) dL_less_19 ?_
      exact fin 2 (u, f) (by decide) (by decide) (Or.inr ⟨_, hp, by decide +kernel⟩) (fun _ _ => rfl) dL_less_20
  · refine z_i2l X (hz z u hp).1 (hz z u hp).2 dL_less_8 ?_
    refine z_last X 437 2 (by omega) gL_f rfl (by omega) (by omega) (by omega) dL_less_9 ?_
    refine z_goto X (tgt := 21) dL_less_10 (by decide) ?_
    refine z_iconst X (n := 0) dL_less_21 ?_
    exact fin 0 (u, vp_updL f (0 : Int).toNat (lZ (z))) (by decide) (by decide) (Or.inl ⟨rfl, z, hp, by simp [vp_updL]⟩) (fun j hj => gL_set j hj) dL_less_22
theorem w_times (l : Launch) {D : va_G} {ad sa : Nat → Nat} {cI cO cJ : ClassId} {S : zS} (M : zM) (f : Nat → Int64) {n0 n1 : Int} {post : Int → zS → Prop} {px : String → zS → Prop} (h : zTi l yX3_times cX3_times 3 (some .int) 8 4 D (zTy cI cO) 419 ad sa [.ref (ad 0), .int (iZ n0), .int (iZ n1)] (gC ad cI cO S) (gC ad cI cO) post px) (hz : ∀ z u, post z u → -2147483648 ≤ z ∧ z < 2147483648) (hE : ∀ E u, px E u → E = "java/lang/IndexOutOfBoundsException" ∨ E = "java/lang/IllegalStateException") : zLi l yL_times cL_times 5 [(0, 10, 13, 25), (0, 10, 17, 13)] 4 D (zTy3 cI cO cJ) 438 ad sa [.ref (ad 0), .int (iZ n0), .int (iZ n1), .ref (ad 437)] (gL ad cI cO cJ S M f) (fun u : zS × (Nat → Int64) => gL ad cI cO cJ u.1 M u.2) (fun r u => (r = 0 ∧ ∃ z, post z u.1 ∧ u.2 0 = lZ z) ∨ ∃ E, px E u.1 ∧ r = xc ["java/lang/IndexOutOfBoundsException", "java/lang/IllegalStateException"] E) := by
  refine z_startL (by decide +kernel) (Nat.le_of_ble_eq_true rfl) ?_
  intro p e s m args below meth c A Q X XX XL ht fin
  refine z_lvq (lv9 := [(0, .ref (ad 0)), (1, .int (iZ n0)), (2, .int (iZ n1)), (3, .ref (ad 437))]) rfl ?_
  refine z_aload_n X 3 rfl rfl dL_times_0 ?_
  refine z_iconst X (n := 0) dL_times_1 ?_
  refine z_aload_n X 0 rfl rfl dL_times_2 ?_
  refine z_iload_n X 1 rfl rfl dL_times_3 ?_
  refine z_iload_n X 2 rfl rfl dL_times_4 ?_
  refine z_callViH X XX zm_X3_times zw581 zw582 zw580 ⟨by decide, by decide, by decide, by decide⟩ [.int (iZ n0), .int (iZ n1)] (zTi_L (M := M) (f := f) (cJ := cJ) h) rfl rfl (Nat.le_of_ble_eq_true rfl) (by omega) ((gL_C (by omega)).trans gC_T) (q := vwCl[5]) rfl rfl dL_times_5 (fun E u hp => ?_) (fun z u hp => ?_)
  · rcases hE E u hp with rfl | rfl
    · refine ⟨[], ⟨0, 10, 13, 25⟩, [⟨0, 10, 17, 13⟩], "java/lang/IndexOutOfBoundsException", ht.trans rfl, (fun z hz => absurd hz List.not_mem_nil), by decide, by decide, zw318, zx_cast XX (List.mem_of_getElem? (i := 23) rfl), fun q9 => ?_⟩
      refine z_astore X [(4, .ref q9), (0, .ref (ad 0)), (1, .int (iZ n0)), (2, .int (iZ n1)), (3, .ref (ad 437))] rfl (by decide) dL_times_13 ?_
      refine z_iconst X (n := 1) dL_times_15 ?_
      exact fin 1 (u, f) (by decide) (by decide) (Or.inr ⟨_, hp, by decide +kernel⟩) (fun _ _ => rfl) dL_times_16
    · refine ⟨[⟨0, 10, 13, 25⟩], ⟨0, 10, 17, 13⟩, [], "java/lang/IllegalStateException", ht.trans rfl, (fun z hz => (by rw [List.mem_singleton.mp hz]; exact Or.inr ⟨by decide, _, zw318, zx_Nc XL (List.mem_of_getElem? (i := 1) rfl)⟩)), by decide, by decide, zw173, zx_cast XX (List.mem_of_getElem? (i := 17) rfl), fun q9 => ?_⟩
      refine z_astore X [(4, .ref q9), (0, .ref (ad 0)), (1, .int (iZ n0)), (2, .int (iZ n1)), (3, .ref (ad 437))] rfl (by decide) dL_times_17 ?_
      refine z_iconst X (n := 2) dL_times_19 ?_
      exact fin 2 (u, f) (by decide) (by decide) (Or.inr ⟨_, hp, by decide +kernel⟩) (fun _ _ => rfl) dL_times_20
  · refine z_i2l X (hz z u hp).1 (hz z u hp).2 dL_times_8 ?_
    refine z_last X 437 2 (by omega) gL_f rfl (by omega) (by omega) (by omega) dL_times_9 ?_
    refine z_goto X (tgt := 21) dL_times_10 (by decide) ?_
    refine z_iconst X (n := 0) dL_times_21 ?_
    exact fin 0 (u, vp_updL f (0 : Int).toNat (lZ (z))) (by decide) (by decide) (Or.inl ⟨rfl, z, hp, by simp [vp_updL]⟩) (fun j hj => gL_set j hj) dL_times_22
theorem w_over (l : Launch) {D : va_G} {ad sa : Nat → Nat} {cI cO cJ : ClassId} {S : zS} (M : zM) (f : Nat → Int64) {n0 n1 : Int} {post : Int → zS → Prop} {px : String → zS → Prop} (h : zTi l yX3_over cX3_over 3 (some .int) 8 4 D (zTy cI cO) 419 ad sa [.ref (ad 0), .int (iZ n0), .int (iZ n1)] (gC ad cI cO S) (gC ad cI cO) post px) (hz : ∀ z u, post z u → -2147483648 ≤ z ∧ z < 2147483648) (hE : ∀ E u, px E u → E = "java/lang/IndexOutOfBoundsException" ∨ E = "java/lang/IllegalStateException") : zLi l yL_over cL_over 5 [(0, 10, 13, 25), (0, 10, 17, 13)] 4 D (zTy3 cI cO cJ) 438 ad sa [.ref (ad 0), .int (iZ n0), .int (iZ n1), .ref (ad 437)] (gL ad cI cO cJ S M f) (fun u : zS × (Nat → Int64) => gL ad cI cO cJ u.1 M u.2) (fun r u => (r = 0 ∧ ∃ z, post z u.1 ∧ u.2 0 = lZ z) ∨ ∃ E, px E u.1 ∧ r = xc ["java/lang/IndexOutOfBoundsException", "java/lang/IllegalStateException"] E) := by
  refine z_startL (by decide +kernel) (Nat.le_of_ble_eq_true rfl) ?_
  intro p e s m args below meth c A Q X XX XL ht fin
  refine z_lvq (lv9 := [(0, .ref (ad 0)), (1, .int (iZ n0)), (2, .int (iZ n1)), (3, .ref (ad 437))]) rfl ?_
  refine z_aload_n X 3 rfl rfl dL_over_0 ?_
  refine z_iconst X (n := 0) dL_over_1 ?_
  refine z_aload_n X 0 rfl rfl dL_over_2 ?_
  refine z_iload_n X 1 rfl rfl dL_over_3 ?_
  refine z_iload_n X 2 rfl rfl dL_over_4 ?_
  refine z_callViH X XX zm_X3_over zw588 zw589 zw587 ⟨by decide, by decide, by decide, by decide⟩ [.int (iZ n0), .int (iZ n1)] (zTi_L (M := M) (f := f) (cJ := cJ) h) rfl rfl (Nat.le_of_ble_eq_true rfl) (by omega) ((gL_C (by omega)).trans gC_T) (q := vwCl[5]) rfl rfl dL_over_5 (fun E u hp => ?_) (fun z u hp => ?_)
  · rcases hE E u hp with rfl | rfl
    · refine ⟨[], ⟨0, 10, 13, 25⟩, [⟨0, 10, 17, 13⟩], "java/lang/IndexOutOfBoundsException", ht.trans rfl, (fun z hz => absurd hz List.not_mem_nil), by decide, by decide, zw318, zx_cast XX (List.mem_of_getElem? (i := 23) rfl), fun q9 => ?_⟩
      refine z_astore X [(4, .ref q9), (0, .ref (ad 0)), (1, .int (iZ n0)), (2, .int (iZ n1)), (3, .ref (ad 437))] rfl (by decide) dL_over_13 ?_
      refine z_iconst X (n := 1) dL_over_15 ?_
      exact fin 1 (u, f) (by decide) (by decide) (Or.inr ⟨_, hp, by decide +kernel⟩) (fun _ _ => rfl) dL_over_16
    · refine ⟨[⟨0, 10, 13, 25⟩], ⟨0, 10, 17, 13⟩, [], "java/lang/IllegalStateException", ht.trans rfl, (fun z hz => (by rw [List.mem_singleton.mp hz]; exact Or.inr ⟨by decide, _, zw318, zx_Nc XL (List.mem_of_getElem? (i := 1) rfl)⟩)), by decide, by decide, zw173, zx_cast XX (List.mem_of_getElem? (i := 17) rfl), fun q9 => ?_⟩
      refine z_astore X [(4, .ref q9), (0, .ref (ad 0)), (1, .int (iZ n0)), (2, .int (iZ n1)), (3, .ref (ad 437))] rfl (by decide) dL_over_17 ?_
      refine z_iconst X (n := 2) dL_over_19 ?_
      exact fin 2 (u, f) (by decide) (by decide) (Or.inr ⟨_, hp, by decide +kernel⟩) (fun _ _ => rfl) dL_over_20
  · refine z_i2l X (hz z u hp).1 (hz z u hp).2 dL_over_8 ?_
    refine z_last X 437 2 (by omega) gL_f rfl (by omega) (by omega) (by omega) dL_over_9 ?_
    refine z_goto X (tgt := 21) dL_over_10 (by decide) ?_
    refine z_iconst X (n := 0) dL_over_21 ?_
    exact fin 0 (u, vp_updL f (0 : Int).toNat (lZ (z))) (by decide) (by decide) (Or.inl ⟨rfl, z, hp, by simp [vp_updL]⟩) (fun j hj => gL_set j hj) dL_over_22
theorem w_derive (l : Launch) {D : va_G} {ad sa : Nat → Nat} {cI cO cJ : ClassId} {S : zS} (M : zM) (f : Nat → Int64) {n0 : Int} {post : Int → zS → Prop} {px : String → zS → Prop} (h : zTi l yX3_derive cX3_derive 2 (some .int) 8 3 D (zTy cI cO) 419 ad sa [.ref (ad 0), .int (iZ n0)] (gC ad cI cO S) (gC ad cI cO) post px) (hz : ∀ z u, post z u → -2147483648 ≤ z ∧ z < 2147483648) (hE : ∀ E u, px E u → E = "java/lang/IndexOutOfBoundsException" ∨ E = "java/lang/IllegalStateException") : zLi l yL_derive cL_derive 4 [(0, 9, 12, 25), (0, 9, 15, 13)] 3 D (zTy3 cI cO cJ) 438 ad sa [.ref (ad 0), .int (iZ n0), .ref (ad 437)] (gL ad cI cO cJ S M f) (fun u : zS × (Nat → Int64) => gL ad cI cO cJ u.1 M u.2) (fun r u => (r = 0 ∧ ∃ z, post z u.1 ∧ u.2 0 = lZ z) ∨ ∃ E, px E u.1 ∧ r = xc ["java/lang/IndexOutOfBoundsException", "java/lang/IllegalStateException"] E) := by
  refine z_startL (by decide +kernel) (Nat.le_of_ble_eq_true rfl) ?_
  intro p e s m args below meth c A Q X XX XL ht fin
  refine z_lvq (lv9 := [(0, .ref (ad 0)), (1, .int (iZ n0)), (2, .ref (ad 437))]) rfl ?_
  refine z_aload_n X 2 rfl rfl dL_derive_0 ?_
  refine z_iconst X (n := 0) dL_derive_1 ?_
  refine z_aload_n X 0 rfl rfl dL_derive_2 ?_
  refine z_iload_n X 1 rfl rfl dL_derive_3 ?_
  refine z_callViH X XX zm_X3_derive zw595 zw596 zw594 ⟨by decide, by decide, by decide, by decide⟩ [.int (iZ n0)] (zTi_L (M := M) (f := f) (cJ := cJ) h) rfl rfl (Nat.le_of_ble_eq_true rfl) (by omega) ((gL_C (by omega)).trans gC_T) (q := vwCl[5]) rfl rfl dL_derive_4 (fun E u hp => ?_) (fun z u hp => ?_)
  · rcases hE E u hp with rfl | rfl
    · refine ⟨[], ⟨0, 9, 12, 25⟩, [⟨0, 9, 15, 13⟩], "java/lang/IndexOutOfBoundsException", ht.trans rfl, (fun z hz => absurd hz List.not_mem_nil), by decide, by decide, zw318, zx_cast XX (List.mem_of_getElem? (i := 23) rfl), fun q9 => ?_⟩
      refine z_astore_n X [(3, .ref q9), (0, .ref (ad 0)), (1, .int (iZ n0)), (2, .ref (ad 437))] rfl rfl (by decide) dL_derive_12 ?_
      refine z_iconst X (n := 1) dL_derive_13 ?_
      exact fin 1 (u, f) (by decide) (by decide) (Or.inr ⟨_, hp, by decide +kernel⟩) (fun _ _ => rfl) dL_derive_14
    · refine ⟨[⟨0, 9, 12, 25⟩], ⟨0, 9, 15, 13⟩, [], "java/lang/IllegalStateException", ht.trans rfl, (fun z hz => (by rw [List.mem_singleton.mp hz]; exact Or.inr ⟨by decide, _, zw318, zx_Nc XL (List.mem_of_getElem? (i := 1) rfl)⟩)), by decide, by decide, zw173, zx_cast XX (List.mem_of_getElem? (i := 17) rfl), fun q9 => ?_⟩
      refine z_astore_n X [(3, .ref q9), (0, .ref (ad 0)), (1, .int (iZ n0)), (2, .ref (ad 437))] rfl rfl (by decide) dL_derive_15 ?_
      refine z_iconst X (n := 2) dL_derive_16 ?_
      exact fin 2 (u, f) (by decide) (by decide) (Or.inr ⟨_, hp, by decide +kernel⟩) (fun _ _ => rfl) dL_derive_17
  · refine z_i2l X (hz z u hp).1 (hz z u hp).2 dL_derive_7 ?_
    refine z_last X 437 2 (by omega) gL_f rfl (by omega) (by omega) (by omega) dL_derive_8 ?_
    refine z_goto X (tgt := 18) dL_derive_9 (by decide) ?_
    refine z_iconst X (n := 0) dL_derive_18 ?_
    exact fin 0 (u, vp_updL f (0 : Int).toNat (lZ (z))) (by decide) (by decide) (Or.inl ⟨rfl, z, hp, by simp [vp_updL]⟩) (fun j hj => gL_set j hj) dL_derive_19
theorem w_logarithmic (l : Launch) {D : va_G} {ad sa : Nat → Nat} {cI cO cJ : ClassId} {S : zS} (M : zM) (f : Nat → Int64) {n0 : Int} {post : Int → zS → Prop} {px : String → zS → Prop} (h : zTi l yX3_logarithmic cX3_logarithmic 2 (some .int) 8 3 D (zTy cI cO) 419 ad sa [.ref (ad 0), .int (iZ n0)] (gC ad cI cO S) (gC ad cI cO) post px) (hz : ∀ z u, post z u → -2147483648 ≤ z ∧ z < 2147483648) (hE : ∀ E u, px E u → E = "java/lang/IndexOutOfBoundsException" ∨ E = "java/lang/IllegalStateException") : zLi l yL_logarithmic cL_logarithmic 4 [(0, 9, 12, 25), (0, 9, 15, 13)] 3 D (zTy3 cI cO cJ) 438 ad sa [.ref (ad 0), .int (iZ n0), .ref (ad 437)] (gL ad cI cO cJ S M f) (fun u : zS × (Nat → Int64) => gL ad cI cO cJ u.1 M u.2) (fun r u => (r = 0 ∧ ∃ z, post z u.1 ∧ u.2 0 = lZ z) ∨ ∃ E, px E u.1 ∧ r = xc ["java/lang/IndexOutOfBoundsException", "java/lang/IllegalStateException"] E) := by
  refine z_startL (by decide +kernel) (Nat.le_of_ble_eq_true rfl) ?_
  intro p e s m args below meth c A Q X XX XL ht fin
  refine z_lvq (lv9 := [(0, .ref (ad 0)), (1, .int (iZ n0)), (2, .ref (ad 437))]) rfl ?_
  refine z_aload_n X 2 rfl rfl dL_logarithmic_0 ?_
  refine z_iconst X (n := 0) dL_logarithmic_1 ?_
  refine z_aload_n X 0 rfl rfl dL_logarithmic_2 ?_
  refine z_iload_n X 1 rfl rfl dL_logarithmic_3 ?_
  refine z_callViH X XX zm_X3_logarithmic zw606 zw607 zw605 ⟨by decide, by decide, by decide, by decide⟩ [.int (iZ n0)] (zTi_L (M := M) (f := f) (cJ := cJ) h) rfl rfl (Nat.le_of_ble_eq_true rfl) (by omega) ((gL_C (by omega)).trans gC_T) (q := vwCl[5]) rfl rfl dL_logarithmic_4 (fun E u hp => ?_) (fun z u hp => ?_)
  · rcases hE E u hp with rfl | rfl
    · refine ⟨[], ⟨0, 9, 12, 25⟩, [⟨0, 9, 15, 13⟩], "java/lang/IndexOutOfBoundsException", ht.trans rfl, (fun z hz => absurd hz List.not_mem_nil), by decide, by decide, zw318, zx_cast XX (List.mem_of_getElem? (i := 23) rfl), fun q9 => ?_⟩
      refine z_astore_n X [(3, .ref q9), (0, .ref (ad 0)), (1, .int (iZ n0)), (2, .ref (ad 437))] rfl rfl (by decide) dL_logarithmic_12 ?_
      refine z_iconst X (n := 1) dL_logarithmic_13 ?_
      exact fin 1 (u, f) (by decide) (by decide) (Or.inr ⟨_, hp, by decide +kernel⟩) (fun _ _ => rfl) dL_logarithmic_14
    · refine ⟨[⟨0, 9, 12, 25⟩], ⟨0, 9, 15, 13⟩, [], "java/lang/IllegalStateException", ht.trans rfl, (fun z hz => (by rw [List.mem_singleton.mp hz]; exact Or.inr ⟨by decide, _, zw318, zx_Nc XL (List.mem_of_getElem? (i := 1) rfl)⟩)), by decide, by decide, zw173, zx_cast XX (List.mem_of_getElem? (i := 17) rfl), fun q9 => ?_⟩
      refine z_astore_n X [(3, .ref q9), (0, .ref (ad 0)), (1, .int (iZ n0)), (2, .ref (ad 437))] rfl rfl (by decide) dL_logarithmic_15 ?_
      refine z_iconst X (n := 2) dL_logarithmic_16 ?_
      exact fin 2 (u, f) (by decide) (by decide) (Or.inr ⟨_, hp, by decide +kernel⟩) (fun _ _ => rfl) dL_logarithmic_17
  · refine z_i2l X (hz z u hp).1 (hz z u hp).2 dL_logarithmic_7 ?_
    refine z_last X 437 2 (by omega) gL_f rfl (by omega) (by omega) (by omega) dL_logarithmic_8 ?_
    refine z_goto X (tgt := 18) dL_logarithmic_9 (by decide) ?_
    refine z_iconst X (n := 0) dL_logarithmic_18 ?_
    exact fin 0 (u, vp_updL f (0 : Int).toNat (lZ (z))) (by decide) (by decide) (Or.inl ⟨rfl, z, hp, by simp [vp_updL]⟩) (fun j hj => gL_set j hj) dL_logarithmic_19
theorem w_part (l : Launch) {D : va_G} {ad sa : Nat → Nat} {cI cO cJ : ClassId} {S : zS} (M : zM) (f : Nat → Int64) {n0 n1 : Int} {post : Int → zS → Prop} {px : String → zS → Prop} (h : zTi l yX3_part cX3_part 3 (some .int) 8 3 D (zTy cI cO) 419 ad sa [.ref (ad 0), .int (iZ n0), .int (iZ n1)] (gC ad cI cO S) (gC ad cI cO) post px) (hz : ∀ z u, post z u → -2147483648 ≤ z ∧ z < 2147483648) (hE : ∀ E u, px E u → E = "java/lang/IndexOutOfBoundsException" ∨ E = "java/lang/IllegalStateException" ∨ E = "java/lang/IllegalArgumentException") : zLi l yL_part cL_part 5 [(0, 10, 13, 25), (0, 10, 17, 13), (0, 10, 21, 27)] 3 D (zTy3 cI cO cJ) 438 ad sa [.ref (ad 0), .int (iZ n0), .int (iZ n1), .ref (ad 437)] (gL ad cI cO cJ S M f) (fun u : zS × (Nat → Int64) => gL ad cI cO cJ u.1 M u.2) (fun r u => (r = 0 ∧ ∃ z, post z u.1 ∧ u.2 0 = lZ z) ∨ ∃ E, px E u.1 ∧ r = xc ["java/lang/IndexOutOfBoundsException", "java/lang/IllegalStateException", "java/lang/IllegalArgumentException"] E) := by
  refine z_startL (by decide +kernel) (Nat.le_of_ble_eq_true rfl) ?_
  intro p e s m args below meth c A Q X XX XL ht fin
  refine z_lvq (lv9 := [(0, .ref (ad 0)), (1, .int (iZ n0)), (2, .int (iZ n1)), (3, .ref (ad 437))]) rfl ?_
  refine z_aload_n X 3 rfl rfl dL_part_0 ?_
  refine z_iconst X (n := 0) dL_part_1 ?_
  refine z_aload_n X 0 rfl rfl dL_part_2 ?_
  refine z_iload_n X 1 rfl rfl dL_part_3 ?_
  refine z_iload_n X 2 rfl rfl dL_part_4 ?_
  refine z_callViH X XX zm_X3_part zw613 zw614 zw612 ⟨by decide, by decide, by decide, by decide⟩ [.int (iZ n0), .int (iZ n1)] (zTi_L (M := M) (f := f) (cJ := cJ) h) rfl rfl (Nat.le_of_ble_eq_true rfl) (by omega) ((gL_C (by omega)).trans gC_T) (q := vwCl[5]) rfl rfl dL_part_5 (fun E u hp => ?_) (fun z u hp => ?_)
  · rcases hE E u hp with rfl | rfl | rfl
    · refine ⟨[], ⟨0, 10, 13, 25⟩, [⟨0, 10, 17, 13⟩, ⟨0, 10, 21, 27⟩], "java/lang/IndexOutOfBoundsException", ht.trans rfl, (fun z hz => absurd hz List.not_mem_nil), by decide, by decide, zw318, zx_cast XX (List.mem_of_getElem? (i := 23) rfl), fun q9 => ?_⟩
      refine z_astore X [(4, .ref q9), (0, .ref (ad 0)), (1, .int (iZ n0)), (2, .int (iZ n1)), (3, .ref (ad 437))] rfl (by decide) dL_part_13 ?_
      refine z_iconst X (n := 1) dL_part_15 ?_
      exact fin 1 (u, f) (by decide) (by decide) (Or.inr ⟨_, hp, by decide +kernel⟩) (fun _ _ => rfl) dL_part_16
    · refine ⟨[⟨0, 10, 13, 25⟩], ⟨0, 10, 17, 13⟩, [⟨0, 10, 21, 27⟩], "java/lang/IllegalStateException", ht.trans rfl, (fun z hz => (by rw [List.mem_singleton.mp hz]; exact Or.inr ⟨by decide, _, zw318, zx_Nc XL (List.mem_of_getElem? (i := 1) rfl)⟩)), by decide, by decide, zw173, zx_cast XX (List.mem_of_getElem? (i := 17) rfl), fun q9 => ?_⟩
      refine z_astore X [(4, .ref q9), (0, .ref (ad 0)), (1, .int (iZ n0)), (2, .int (iZ n1)), (3, .ref (ad 437))] rfl (by decide) dL_part_17 ?_
      refine z_iconst X (n := 2) dL_part_19 ?_
      exact fin 2 (u, f) (by decide) (by decide) (Or.inr ⟨_, hp, by decide +kernel⟩) (fun _ _ => rfl) dL_part_20
    · refine ⟨[⟨0, 10, 13, 25⟩, ⟨0, 10, 17, 13⟩], ⟨0, 10, 21, 27⟩, [], "java/lang/IllegalArgumentException", ht.trans rfl, (fun z hz => (by rcases List.mem_cons.mp hz with rfl | hz; exact Or.inr ⟨by decide, _, zw318, zx_Nc XL (List.mem_of_getElem? (i := 11) rfl)⟩; rw [List.mem_singleton.mp hz]; exact Or.inr ⟨by decide, _, zw173, zx_Nc XL (List.mem_of_getElem? (i := 9) rfl)⟩)), by decide, by decide, zw337, zx_cast XX (List.mem_of_getElem? (i := 29) rfl), fun q9 => ?_⟩
      refine z_astore X [(4, .ref q9), (0, .ref (ad 0)), (1, .int (iZ n0)), (2, .int (iZ n1)), (3, .ref (ad 437))] rfl (by decide) dL_part_21 ?_
      refine z_iconst X (n := 3) dL_part_23 ?_
      exact fin 3 (u, f) (by decide) (by decide) (Or.inr ⟨_, hp, by decide +kernel⟩) (fun _ _ => rfl) dL_part_24
  · refine z_i2l X (hz z u hp).1 (hz z u hp).2 dL_part_8 ?_
    refine z_last X 437 2 (by omega) gL_f rfl (by omega) (by omega) (by omega) dL_part_9 ?_
    refine z_goto X (tgt := 25) dL_part_10 (by decide) ?_
    refine z_iconst X (n := 0) dL_part_25 ?_
    exact fin 0 (u, vp_updL f (0 : Int).toNat (lZ (z))) (by decide) (by decide) (Or.inl ⟨rfl, z, hp, by simp [vp_updL]⟩) (fun j hj => gL_set j hj) dL_part_26
theorem w_common (l : Launch) {D : va_G} {ad sa : Nat → Nat} {cI cO cJ : ClassId} {S : zS} (M : zM) (f : Nat → Int64) {n0 n1 : Int} {post : Int → zS → Prop} {px : String → zS → Prop} (h : zTi l yX3_common cX3_common 3 (some .int) 8 4 D (zTy cI cO) 419 ad sa [.ref (ad 0), .int (iZ n0), .int (iZ n1)] (gC ad cI cO S) (gC ad cI cO) post px) (hz : ∀ z u, post z u → -2147483648 ≤ z ∧ z < 2147483648) (hE : ∀ E u, px E u → E = "java/lang/IndexOutOfBoundsException" ∨ E = "java/lang/IllegalStateException") : zLi l yL_common cL_common 5 [(0, 10, 13, 25), (0, 10, 17, 13)] 4 D (zTy3 cI cO cJ) 438 ad sa [.ref (ad 0), .int (iZ n0), .int (iZ n1), .ref (ad 437)] (gL ad cI cO cJ S M f) (fun u : zS × (Nat → Int64) => gL ad cI cO cJ u.1 M u.2) (fun r u => (r = 0 ∧ ∃ z, post z u.1 ∧ u.2 0 = lZ z) ∨ ∃ E, px E u.1 ∧ r = xc ["java/lang/IndexOutOfBoundsException", "java/lang/IllegalStateException"] E) := by
  refine z_startL (by decide +kernel) (Nat.le_of_ble_eq_true rfl) ?_
  intro p e s m args below meth c A Q X XX XL ht fin
  refine z_lvq (lv9 := [(0, .ref (ad 0)), (1, .int (iZ n0)), (2, .int (iZ n1)), (3, .ref (ad 437))]) rfl ?_
  refine z_aload_n X 3 rfl rfl dL_common_0 ?_
  refine z_iconst X (n := 0) dL_common_1 ?_
  refine z_aload_n X 0 rfl rfl dL_common_2 ?_
  refine z_iload_n X 1 rfl rfl dL_common_3 ?_
  refine z_iload_n X 2 rfl rfl dL_common_4 ?_
  refine z_callViH X XX zm_X3_common zw631 zw632 zw630 ⟨by decide, by decide, by decide, by decide⟩ [.int (iZ n0), .int (iZ n1)] (zTi_L (M := M) (f := f) (cJ := cJ) h) rfl rfl (Nat.le_of_ble_eq_true rfl) (by omega) ((gL_C (by omega)).trans gC_T) (q := vwCl[5]) rfl rfl dL_common_5 (fun E u hp => ?_) (fun z u hp => ?_)
  · rcases hE E u hp with rfl | rfl
    · refine ⟨[], ⟨0, 10, 13, 25⟩, [⟨0, 10, 17, 13⟩], "java/lang/IndexOutOfBoundsException", ht.trans rfl, (fun z hz => absurd hz List.not_mem_nil), by decide, by decide, zw318, zx_cast XX (List.mem_of_getElem? (i := 23) rfl), fun q9 => ?_⟩
      refine z_astore X [(4, .ref q9), (0, .ref (ad 0)), (1, .int (iZ n0)), (2, .int (iZ n1)), (3, .ref (ad 437))] rfl (by decide) dL_common_13 ?_
      refine z_iconst X (n := 1) dL_common_15 ?_
      exact fin 1 (u, f) (by decide) (by decide) (Or.inr ⟨_, hp, by decide +kernel⟩) (fun _ _ => rfl) dL_common_16
    · refine ⟨[⟨0, 10, 13, 25⟩], ⟨0, 10, 17, 13⟩, [], "java/lang/IllegalStateException", ht.trans rfl, (fun z hz => (by rw [List.mem_singleton.mp hz]; exact Or.inr ⟨by decide, _, zw318, zx_Nc XL (List.mem_of_getElem? (i := 1) rfl)⟩)), by decide, by decide, zw173, zx_cast XX (List.mem_of_getElem? (i := 17) rfl), fun q9 => ?_⟩
      refine z_astore X [(4, .ref q9), (0, .ref (ad 0)), (1, .int (iZ n0)), (2, .int (iZ n1)), (3, .ref (ad 437))] rfl (by decide) dL_common_17 ?_
      refine z_iconst X (n := 2) dL_common_19 ?_
      exact fin 2 (u, f) (by decide) (by decide) (Or.inr ⟨_, hp, by decide +kernel⟩) (fun _ _ => rfl) dL_common_20
  · refine z_i2l X (hz z u hp).1 (hz z u hp).2 dL_common_8 ?_
    refine z_last X 437 2 (by omega) gL_f rfl (by omega) (by omega) (by omega) dL_common_9 ?_
    refine z_goto X (tgt := 21) dL_common_10 (by decide) ?_
    refine z_iconst X (n := 0) dL_common_21 ?_
    exact fin 0 (u, vp_updL f (0 : Int).toNat (lZ (z))) (by decide) (by decide) (Or.inl ⟨rfl, z, hp, by simp [vp_updL]⟩) (fun j hj => gL_set j hj) dL_common_22
theorem w_same (l : Launch) {D : va_G} {ad sa : Nat → Nat} {cI cO cJ : ClassId} {S : zS} (M : zM) (f : Nat → Int64) {n0 n1 : Int} {post : Int → zS → Prop} {px : String → zS → Prop} (h : zTi l yX3_same cX3_same 4 (some .boolean) 8 2 D (zTy cI cO) 419 ad sa [.ref (ad 0), .int (iZ n0), .int (iZ n1)] (gC ad cI cO S) (gC ad cI cO) post px) (hz : ∀ z u, post z u → z = 0 ∨ z = 1) (hE : ∀ E u, px E u → E = "java/lang/IndexOutOfBoundsException") : zLi l yL_same cL_same 5 [(0, 17, 20, 25)] 2 D (zTy3 cI cO cJ) 438 ad sa [.ref (ad 0), .int (iZ n0), .int (iZ n1), .ref (ad 437)] (gL ad cI cO cJ S M f) (fun u : zS × (Nat → Int64) => gL ad cI cO cJ u.1 M u.2) (fun r u => (r = 0 ∧ ∃ z, post z u.1 ∧ u.2 0 = lZ z) ∨ ∃ E, px E u.1 ∧ r = xc ["java/lang/IndexOutOfBoundsException"] E) := by
  refine z_startL (by decide +kernel) (Nat.le_of_ble_eq_true rfl) ?_
  intro p e s m args below meth c A Q X XX XL ht fin
  refine z_lvq (lv9 := [(0, .ref (ad 0)), (1, .int (iZ n0)), (2, .int (iZ n1)), (3, .ref (ad 437))]) rfl ?_
  refine z_aload_n X 3 rfl rfl dL_same_0 ?_
  refine z_iconst X (n := 0) dL_same_1 ?_
  refine z_aload_n X 0 rfl rfl dL_same_2 ?_
  refine z_iload_n X 1 rfl rfl dL_same_3 ?_
  refine z_iload_n X 2 rfl rfl dL_same_4 ?_
  refine z_callViH X XX zm_X3_same zw638 zw639 zw637 ⟨by decide, by decide, by decide, by decide⟩ [.int (iZ n0), .int (iZ n1)] (zTi_L (M := M) (f := f) (cJ := cJ) h) rfl rfl (Nat.le_of_ble_eq_true rfl) (by omega) ((gL_C (by omega)).trans gC_T) (q := vwCl[5]) rfl rfl dL_same_5 (fun E u hp => ?_) (fun z u hp => ?_)
  · rcases hE E u hp with rfl
    · refine ⟨[], ⟨0, 17, 20, 25⟩, [], "java/lang/IndexOutOfBoundsException", ht.trans rfl, (fun z hz => absurd hz List.not_mem_nil), by decide, by decide, zw318, zx_cast XX (List.mem_of_getElem? (i := 23) rfl), fun q9 => ?_⟩
      refine z_astore X [(4, .ref q9), (0, .ref (ad 0)), (1, .int (iZ n0)), (2, .int (iZ n1)), (3, .ref (ad 437))] rfl (by decide) dL_same_20 ?_
      refine z_iconst X (n := 1) dL_same_22 ?_
      exact fin 1 (u, f) (by decide) (by decide) (Or.inr ⟨_, hp, by decide +kernel⟩) (fun _ _ => rfl) dL_same_23
  · refine z_if_eq X (tgt := 15) (by rcases hz z u hp with h9 | h9 <;> omega) dL_same_8 (by decide) (fun h5 => ?_) (fun h5 => ?_)
    · subst h5
      refine z_lconst0 X dL_same_15 ?_
      refine z_last X 437 2 (by omega) gL_f rfl (by omega) (by omega) (by omega) dL_same_16 ?_
      refine z_goto X (tgt := 24) dL_same_17 (by decide) ?_
      refine z_iconst X (n := 0) dL_same_24 ?_
      exact fin 0 (u, vp_updL f (0 : Int).toNat (lZ (0))) (by decide) (by decide) (Or.inl ⟨rfl, 0, hp, by simp [vp_updL]⟩) (fun j hj => gL_set j hj) dL_same_25
    · have h6 : z = 1 := by rcases hz z u hp with h9 | h9 <;> omega
      subst h6
      refine z_lconst1 X dL_same_11 ?_
      refine z_goto X (tgt := 16) dL_same_12 (by decide) ?_
      refine z_last X 437 2 (by omega) gL_f rfl (by omega) (by omega) (by omega) dL_same_16 ?_
      refine z_goto X (tgt := 24) dL_same_17 (by decide) ?_
      refine z_iconst X (n := 0) dL_same_24 ?_
      exact fin 0 (u, vp_updL f (0 : Int).toNat (lZ (1))) (by decide) (by decide) (Or.inl ⟨rfl, 1, hp, by simp [vp_updL]⟩) (fun j hj => gL_set j hj) dL_same_25
theorem w_constant (l : Launch) {D : va_G} {ad sa : Nat → Nat} {cI cO cJ : ClassId} {S : zS} (M : zM) (f : Nat → Int64) {n0 : Int} {post : Int → zS → Prop} {px : String → zS → Prop} (h : zTi l yX3_constant cX3_constant 2 (some .boolean) 8 1 D (zTy cI cO) 419 ad sa [.ref (ad 0), .int (iZ n0)] (gC ad cI cO S) (gC ad cI cO) post px) (hz : ∀ z u, post z u → z = 0 ∨ z = 1) (hE : ∀ E u, px E u → E = "java/lang/IndexOutOfBoundsException") : zLi l yL_constant cL_constant 4 [(0, 16, 19, 25)] 1 D (zTy3 cI cO cJ) 438 ad sa [.ref (ad 0), .int (iZ n0), .ref (ad 437)] (gL ad cI cO cJ S M f) (fun u : zS × (Nat → Int64) => gL ad cI cO cJ u.1 M u.2) (fun r u => (r = 0 ∧ ∃ z, post z u.1 ∧ u.2 0 = lZ z) ∨ ∃ E, px E u.1 ∧ r = xc ["java/lang/IndexOutOfBoundsException"] E) := by
  refine z_startL (by decide +kernel) (Nat.le_of_ble_eq_true rfl) ?_
  intro p e s m args below meth c A Q X XX XL ht fin
  refine z_lvq (lv9 := [(0, .ref (ad 0)), (1, .int (iZ n0)), (2, .ref (ad 437))]) rfl ?_
  refine z_aload_n X 2 rfl rfl dL_constant_0 ?_
  refine z_iconst X (n := 0) dL_constant_1 ?_
  refine z_aload_n X 0 rfl rfl dL_constant_2 ?_
  refine z_iload_n X 1 rfl rfl dL_constant_3 ?_
  refine z_callViH X XX zm_X3_constant zw645 zw646 zw644 ⟨by decide, by decide, by decide, by decide⟩ [.int (iZ n0)] (zTi_L (M := M) (f := f) (cJ := cJ) h) rfl rfl (Nat.le_of_ble_eq_true rfl) (by omega) ((gL_C (by omega)).trans gC_T) (q := vwCl[5]) rfl rfl dL_constant_4 (fun E u hp => ?_) (fun z u hp => ?_)
  · rcases hE E u hp with rfl
    · refine ⟨[], ⟨0, 16, 19, 25⟩, [], "java/lang/IndexOutOfBoundsException", ht.trans rfl, (fun z hz => absurd hz List.not_mem_nil), by decide, by decide, zw318, zx_cast XX (List.mem_of_getElem? (i := 23) rfl), fun q9 => ?_⟩
      refine z_astore_n X [(3, .ref q9), (0, .ref (ad 0)), (1, .int (iZ n0)), (2, .ref (ad 437))] rfl rfl (by decide) dL_constant_19 ?_
      refine z_iconst X (n := 1) dL_constant_20 ?_
      exact fin 1 (u, f) (by decide) (by decide) (Or.inr ⟨_, hp, by decide +kernel⟩) (fun _ _ => rfl) dL_constant_21
  · refine z_if_eq X (tgt := 14) (by rcases hz z u hp with h9 | h9 <;> omega) dL_constant_7 (by decide) (fun h5 => ?_) (fun h5 => ?_)
    · subst h5
      refine z_lconst0 X dL_constant_14 ?_
      refine z_last X 437 2 (by omega) gL_f rfl (by omega) (by omega) (by omega) dL_constant_15 ?_
      refine z_goto X (tgt := 22) dL_constant_16 (by decide) ?_
      refine z_iconst X (n := 0) dL_constant_22 ?_
      exact fin 0 (u, vp_updL f (0 : Int).toNat (lZ (0))) (by decide) (by decide) (Or.inl ⟨rfl, 0, hp, by simp [vp_updL]⟩) (fun j hj => gL_set j hj) dL_constant_23
    · have h6 : z = 1 := by rcases hz z u hp with h9 | h9 <;> omega
      subst h6
      refine z_lconst1 X dL_constant_10 ?_
      refine z_goto X (tgt := 15) dL_constant_11 (by decide) ?_
      refine z_last X 437 2 (by omega) gL_f rfl (by omega) (by omega) (by omega) dL_constant_15 ?_
      refine z_goto X (tgt := 22) dL_constant_16 (by decide) ?_
      refine z_iconst X (n := 0) dL_constant_22 ?_
      exact fin 0 (u, vp_updL f (0 : Int).toNat (lZ (1))) (by decide) (by decide) (Or.inl ⟨rfl, 1, hp, by simp [vp_updL]⟩) (fun j hj => gL_set j hj) dL_constant_23
theorem w_low (l : Launch) {D : va_G} {ad sa : Nat → Nat} {cI cO cJ : ClassId} {S : zS} (M : zM) (f : Nat → Int64) {n0 : Int} {post : Int → zS → Prop} {px : String → zS → Prop} (h : zTi l yX3_low cX3_low 4 (some .boolean) 8 1 D (zTy cI cO) 419 ad sa [.ref (ad 0), .int (iZ n0)] (gC ad cI cO S) (gC ad cI cO) post px) (hz : ∀ z u, post z u → z = 0 ∨ z = 1) (hE : ∀ E u, px E u → E = "java/lang/IndexOutOfBoundsException") : zLi l yL_low cL_low 4 [(0, 16, 19, 25)] 1 D (zTy3 cI cO cJ) 438 ad sa [.ref (ad 0), .int (iZ n0), .ref (ad 437)] (gL ad cI cO cJ S M f) (fun u : zS × (Nat → Int64) => gL ad cI cO cJ u.1 M u.2) (fun r u => (r = 0 ∧ ∃ z, post z u.1 ∧ u.2 0 = lZ z) ∨ ∃ E, px E u.1 ∧ r = xc ["java/lang/IndexOutOfBoundsException"] E) := by
  refine z_startL (by decide +kernel) (Nat.le_of_ble_eq_true rfl) ?_
  intro p e s m args below meth c A Q X XX XL ht fin
  refine z_lvq (lv9 := [(0, .ref (ad 0)), (1, .int (iZ n0)), (2, .ref (ad 437))]) rfl ?_
  refine z_aload_n X 2 rfl rfl dL_low_0 ?_
  refine z_iconst X (n := 0) dL_low_1 ?_
  refine z_aload_n X 0 rfl rfl dL_low_2 ?_
  refine z_iload_n X 1 rfl rfl dL_low_3 ?_
  refine z_callViH X XX zm_X3_low zw652 zw653 zw651 ⟨by decide, by decide, by decide, by decide⟩ [.int (iZ n0)] (zTi_L (M := M) (f := f) (cJ := cJ) h) rfl rfl (Nat.le_of_ble_eq_true rfl) (by omega) ((gL_C (by omega)).trans gC_T) (q := vwCl[5]) rfl rfl dL_low_4 (fun E u hp => ?_) (fun z u hp => ?_)
  · rcases hE E u hp with rfl
    · refine ⟨[], ⟨0, 16, 19, 25⟩, [], "java/lang/IndexOutOfBoundsException", ht.trans rfl, (fun z hz => absurd hz List.not_mem_nil), by decide, by decide, zw318, zx_cast XX (List.mem_of_getElem? (i := 23) rfl), fun q9 => ?_⟩
      refine z_astore_n X [(3, .ref q9), (0, .ref (ad 0)), (1, .int (iZ n0)), (2, .ref (ad 437))] rfl rfl (by decide) dL_low_19 ?_
      refine z_iconst X (n := 1) dL_low_20 ?_
      exact fin 1 (u, f) (by decide) (by decide) (Or.inr ⟨_, hp, by decide +kernel⟩) (fun _ _ => rfl) dL_low_21
  · refine z_if_eq X (tgt := 14) (by rcases hz z u hp with h9 | h9 <;> omega) dL_low_7 (by decide) (fun h5 => ?_) (fun h5 => ?_)
    · subst h5
      refine z_lconst0 X dL_low_14 ?_
      refine z_last X 437 2 (by omega) gL_f rfl (by omega) (by omega) (by omega) dL_low_15 ?_
      refine z_goto X (tgt := 22) dL_low_16 (by decide) ?_
      refine z_iconst X (n := 0) dL_low_22 ?_
      exact fin 0 (u, vp_updL f (0 : Int).toNat (lZ (0))) (by decide) (by decide) (Or.inl ⟨rfl, 0, hp, by simp [vp_updL]⟩) (fun j hj => gL_set j hj) dL_low_23
    · have h6 : z = 1 := by rcases hz z u hp with h9 | h9 <;> omega
      subst h6
      refine z_lconst1 X dL_low_10 ?_
      refine z_goto X (tgt := 15) dL_low_11 (by decide) ?_
      refine z_last X 437 2 (by omega) gL_f rfl (by omega) (by omega) (by omega) dL_low_15 ?_
      refine z_goto X (tgt := 22) dL_low_16 (by decide) ?_
      refine z_iconst X (n := 0) dL_low_22 ?_
      exact fin 0 (u, vp_updL f (0 : Int).toNat (lZ (1))) (by decide) (by decide) (Or.inl ⟨rfl, 1, hp, by simp [vp_updL]⟩) (fun j hj => gL_set j hj) dL_low_23
theorem w_at (l : Launch) {D : va_G} {ad sa : Nat → Nat} {cI cO cJ : ClassId} {S : zS} (M : zM) (f : Nat → Int64) {n0 n1 n2 n3 : Int} {post : Int → zS → Prop} {px : String → zS → Prop} (h : zTi l yX3_at cX3_at 5 (some .int) 8 3 D (zTy cI cO) 419 ad sa [.ref (ad 0), .int (iZ n0), .int (iZ n1), .int (iZ n2), .int (iZ n3)] (gC ad cI cO S) (gC ad cI cO) post px) (hz : ∀ z u, post z u → -2147483648 ≤ z ∧ z < 2147483648) (hE : ∀ E u, px E u → E = "java/lang/IndexOutOfBoundsException" ∨ E = "java/lang/IllegalArgumentException") : zLi l yL_at cL_at 7 [(0, 14, 17, 25), (0, 14, 21, 27)] 3 D (zTy3 cI cO cJ) 438 ad sa [.ref (ad 0), .int (iZ n0), .int (iZ n1), .int (iZ n2), .int (iZ n3), .ref (ad 437)] (gL ad cI cO cJ S M f) (fun u : zS × (Nat → Int64) => gL ad cI cO cJ u.1 M u.2) (fun r u => (r = 0 ∧ ∃ z, post z u.1 ∧ u.2 0 = lZ z) ∨ ∃ E, px E u.1 ∧ r = xc ["java/lang/IndexOutOfBoundsException", "java/lang/IllegalArgumentException"] E) := by
  refine z_startL (by decide +kernel) (Nat.le_of_ble_eq_true rfl) ?_
  intro p e s m args below meth c A Q X XX XL ht fin
  refine z_lvq (lv9 := [(0, .ref (ad 0)), (1, .int (iZ n0)), (2, .int (iZ n1)), (3, .int (iZ n2)), (4, .int (iZ n3)), (5, .ref (ad 437))]) rfl ?_
  refine z_aload X 5 rfl dL_at_0 ?_
  refine z_iconst X (n := 0) dL_at_2 ?_
  refine z_aload_n X 0 rfl rfl dL_at_3 ?_
  refine z_iload_n X 1 rfl rfl dL_at_4 ?_
  refine z_iload_n X 2 rfl rfl dL_at_5 ?_
  refine z_iload_n X 3 rfl rfl dL_at_6 ?_
  refine z_iload X 4 rfl dL_at_7 ?_
  refine z_callViH X XX zm_X3_at zw659 zw660 zw658 ⟨by decide, by decide, by decide, by decide⟩ [.int (iZ n0), .int (iZ n1), .int (iZ n2), .int (iZ n3)] (zTi_L (M := M) (f := f) (cJ := cJ) h) rfl rfl (Nat.le_of_ble_eq_true rfl) (by omega) ((gL_C (by omega)).trans gC_T) (q := vwCl[5]) rfl rfl dL_at_9 (fun E u hp => ?_) (fun z u hp => ?_)
  · rcases hE E u hp with rfl | rfl
    · refine ⟨[], ⟨0, 14, 17, 25⟩, [⟨0, 14, 21, 27⟩], "java/lang/IndexOutOfBoundsException", ht.trans rfl, (fun z hz => absurd hz List.not_mem_nil), by decide, by decide, zw318, zx_cast XX (List.mem_of_getElem? (i := 23) rfl), fun q9 => ?_⟩
      refine z_astore X [(6, .ref q9), (0, .ref (ad 0)), (1, .int (iZ n0)), (2, .int (iZ n1)), (3, .int (iZ n2)), (4, .int (iZ n3)), (5, .ref (ad 437))] rfl (by decide) dL_at_17 ?_
      refine z_iconst X (n := 1) dL_at_19 ?_
      exact fin 1 (u, f) (by decide) (by decide) (Or.inr ⟨_, hp, by decide +kernel⟩) (fun _ _ => rfl) dL_at_20
    · refine ⟨[⟨0, 14, 17, 25⟩], ⟨0, 14, 21, 27⟩, [], "java/lang/IllegalArgumentException", ht.trans rfl, (fun z hz => (by rw [List.mem_singleton.mp hz]; exact Or.inr ⟨by decide, _, zw318, zx_Nc XL (List.mem_of_getElem? (i := 11) rfl)⟩)), by decide, by decide, zw337, zx_cast XX (List.mem_of_getElem? (i := 29) rfl), fun q9 => ?_⟩
      refine z_astore X [(6, .ref q9), (0, .ref (ad 0)), (1, .int (iZ n0)), (2, .int (iZ n1)), (3, .int (iZ n2)), (4, .int (iZ n3)), (5, .ref (ad 437))] rfl (by decide) dL_at_21 ?_
      refine z_iconst X (n := 2) dL_at_23 ?_
      exact fin 2 (u, f) (by decide) (by decide) (Or.inr ⟨_, hp, by decide +kernel⟩) (fun _ _ => rfl) dL_at_24
  · refine z_i2l X (hz z u hp).1 (hz z u hp).2 dL_at_12 ?_
    refine z_last X 437 2 (by omega) gL_f rfl (by omega) (by omega) (by omega) dL_at_13 ?_
    refine z_goto X (tgt := 25) dL_at_14 (by decide) ?_
    refine z_iconst X (n := 0) dL_at_25 ?_
    exact fin 0 (u, vp_updL f (0 : Int).toNat (lZ (z))) (by decide) (by decide) (Or.inl ⟨rfl, z, hp, by simp [vp_updL]⟩) (fun j hj => gL_set j hj) dL_at_26
