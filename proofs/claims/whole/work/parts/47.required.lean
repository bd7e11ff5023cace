section ZGT
variable {l : Launch} {y : MethodName} {cc : ByteArray} {maxL lev k : Nat} {D : va_G} {tys : List (ClassId × FieldType)} {N : Nat} {ad sa : Nat → Nat} {av : List Value} {g : Nat → va_E} {n : Nat}
theorem z_gotv {S : Type} {G : S → Nat → va_E} {post : S → Prop} {px : String → S → Prop} (hm : zMe y cc maxL none n) (hl : (lg_sl av).length ≤ maxL) (lv0 : List (Nat × Value)) (hlv : lv_args 0 av = lv0)
    (body : ∀ (p : Program) (e : Env) (s : State) (m : MethodId) (args : Array Value) (below : List Frame) (meth : Method) (c : Code) (A : Nat → Prop), zCx p s m args meth c cc maxL y.cls none D tys N ad A → zX A sa s → (∀ x ∈ c.exceptionTable.toList, False) →
      (∀ (u : S) {cells slots : Nat} {pc : Nat} {lv : List (Nat × Value)} {g' : Nat → va_E}, cells ≤ k → slots ≤ 6 * k → post u → g' = G u → decode cc pc = .ok (.return_, 1) → Z p l e (zRx lev k) s m args below meth c maxL D N ad A cells slots (vx_MQ below (zQv D N ad G post A) (zXQ D N ad G px A) args s k (6 * k) A) pc lv [] g') →
      Z p l e (zRx lev k) s m args below meth c maxL D N ad A 0 0 (vx_MQ below (zQv D N ad G post A) (zXQ D N ad G px A) args s k (6 * k) A) 0 lv0 [] g) :
    zTv l y cc maxL lev k D tys N ad sa av g G post px := by
  subst hlv
  exact z_startX (Qc := fun sz => zQv D N ad G post (zAd N ad sz)) (XC := fun sz => zXQ D N ad G px (zAd N ad sz)) hm hl (fun p e s m args below meth c X XX ht => body p e s m args below meth c _ X XX ht (fun u _ _ _ _ _ h1 h2 hp hg hd => z_retX h1 h2 (z_endv X u hp hg hd)))
theorem z_goti {S : Type} {G : S → Nat → va_E} {post : Int → S → Prop} {px : String → S → Prop} (hm : zMe y cc maxL (some .int) n) (hl : (lg_sl av).length ≤ maxL) (lv0 : List (Nat × Value)) (hlv : lv_args 0 av = lv0)
    (body : ∀ (p : Program) (e : Env) (s : State) (m : MethodId) (args : Array Value) (below : List Frame) (meth : Method) (c : Code) (A : Nat → Prop), zCx p s m args meth c cc maxL y.cls (some .int) D tys N ad A → zX A sa s → (∀ x ∈ c.exceptionTable.toList, False) →
      (∀ {z : Int} (u : S) {cells slots : Nat} {pc : Nat} {lv : List (Nat × Value)} {g' : Nat → va_E}, cells ≤ k → slots ≤ 6 * k → post z u → g' = G u → decode cc pc = .ok (.ireturn, 1) → Z p l e (zRx lev k) s m args below meth c maxL D N ad A cells slots (vx_MQ below (zQi D N ad G post A) (zXQ D N ad G px A) args s k (6 * k) A) pc lv [.int (iZ z)] g') →
      Z p l e (zRx lev k) s m args below meth c maxL D N ad A 0 0 (vx_MQ below (zQi D N ad G post A) (zXQ D N ad G px A) args s k (6 * k) A) 0 lv0 [] g) :
    zTi l y cc maxL (some .int) lev k D tys N ad sa av g G post px := by
  subst hlv
  exact z_startX (Qc := fun sz => zQi D N ad G post (zAd N ad sz)) (XC := fun sz => zXQ D N ad G px (zAd N ad sz)) hm hl (fun p e s m args below meth c X XX ht => body p e s m args below meth c _ X XX ht (fun u _ _ _ _ _ h1 h2 hp hg hd => z_retX h1 h2 (z_endi X u hp hg hd)))
theorem z_gotz {S : Type} {G : S → Nat → va_E} {post : Int → S → Prop} {px : String → S → Prop} (hm : zMe y cc maxL (some .boolean) n) (hl : (lg_sl av).length ≤ maxL) (lv0 : List (Nat × Value)) (hlv : lv_args 0 av = lv0)
    (body : ∀ (p : Program) (e : Env) (s : State) (m : MethodId) (args : Array Value) (below : List Frame) (meth : Method) (c : Code) (A : Nat → Prop), zCx p s m args meth c cc maxL y.cls (some .boolean) D tys N ad A → zX A sa s → (∀ x ∈ c.exceptionTable.toList, False) →
      (∀ {z : Int} (u : S) {cells slots : Nat} {pc : Nat} {lv : List (Nat × Value)} {g' : Nat → va_E}, cells ≤ k → slots ≤ 6 * k → (z = 0 ∨ z = 1) → post z u → g' = G u → decode cc pc = .ok (.ireturn, 1) → Z p l e (zRx lev k) s m args below meth c maxL D N ad A cells slots (vx_MQ below (zQi D N ad G post A) (zXQ D N ad G px A) args s k (6 * k) A) pc lv [.int (iZ z)] g') →
      Z p l e (zRx lev k) s m args below meth c maxL D N ad A 0 0 (vx_MQ below (zQi D N ad G post A) (zXQ D N ad G px A) args s k (6 * k) A) 0 lv0 [] g) :
    zTi l y cc maxL (some .boolean) lev k D tys N ad sa av g G post px := by
  subst hlv
  exact z_startX (Qc := fun sz => zQi D N ad G post (zAd N ad sz)) (XC := fun sz => zXQ D N ad G px (zAd N ad sz)) hm hl (fun p e s m args below meth c X XX ht => body p e s m args below meth c _ X XX ht (fun u _ _ _ _ _ h1 h2 hz hp hg hd => z_retX h1 h2 (z_endz X u hz hp hg hd)))
theorem zFitX_of {lev k maxL lev' cells slots k' : Nat} (h : lev' < lev) (hm : maxL ≤ 21) (hc : cells + k' ≤ k) (hs : slots + 6 * k' ≤ 6 * k) : zFitX (zRx lev k) cells slots k' maxL lev' := ⟨h, by show 8 + (maxL + 11) + 40 * lev' ≤ 40 * lev; omega, hc, hs⟩
theorem zFitN_of {lev k maxL lev' cells slots : Nat} (h : lev' < lev) (hm : maxL ≤ 21) (hc : cells ≤ k) (hs : slots ≤ 6 * k) : zFit (zRx lev k) cells slots maxL lev' := ⟨h, by show 8 + (maxL + 11) + 40 * lev' ≤ 40 * lev; omega, hc, hs⟩
end ZGT
set_option maxHeartbeats 8000000 in
set_option maxRecDepth 100000 in
theorem c_X3_requireElement (l : Launch) (hl9 : l.stackTraces = false) {D : va_G} {ad sa : Nat → Nat} {cI cO : ClassId} (S : zS) {n md : Int} (hn : -2147483648 ≤ n ∧ n < 2147483648) (hmd : S.2.2.2.2.1 = md) (hm : 0 ≤ md ∧ md ≤ 120) : zTv l yX3_requireElement cX3_requireElement 2 6 1 D (zTy cI cO) 419 ad sa [.ref (ad 0), .int (iZ n)] (gC ad cI cO S) (fun _ : Unit => gC ad cI cO S) (fun _ => 0 ≤ n ∧ n < md) (fun E _ => E = "java/lang/IndexOutOfBoundsException" ∧ ¬ (0 ≤ n ∧ n < md)) := by
  rw [← hmd] at hm
  subst hmd
  refine z_gotv zm_X3_requireElement (Nat.le_of_ble_eq_true rfl) [(0, .ref (ad 0)), (1, .int (iZ (n)))] rfl (fun p e s m args below meth c A X XX ht E => ?_)
  refine z_iload_n X 1 rfl rfl dX3_requireElement_0 ?_
  refine z_if_lt X (tgt := 12) (by omega) dX3_requireElement_1 (by decide) (fun hb1 => ?_) (fun hb1 => ?_)
  · exact z_throw X XX ht hl9 (ik := 183) (is := 185) (ic := 187) (cls := "java/lang/IndexOutOfBoundsException") 2 rfl (by decide +kernel) zw346 zw12 zat_187 dX3_requireElement_12 dX3_requireElement_15 dX3_requireElement_16 dX3_requireElement_18 dX3_requireElement_21 (by decide) (by decide) (by decide) (by decide) (by decide) (by decide) () (⟨rfl, by omega⟩) (rfl)
  · refine z_iload_n X 1 rfl rfl dX3_requireElement_4 ?_
    refine z_aload_n X 0 rfl rfl dX3_requireElement_5 ?_
    refine z_get X zinX3 0 (by omega) gC_T (ci := 5) rfl 1 (by decide) (ref := "TowerFields") zw121 rfl rfl dX3_requireElement_6 ?_
    refine z_eqi (b := S.2.2.2.2.1) rfl ?_
    refine z_icmp_lt X (tgt := 22) (by omega) (by omega) dX3_requireElement_9 (by decide) (fun hb9 => ?_) (fun hb9 => ?_)
    · exact E () (by decide) (by decide) ⟨by omega, by omega⟩ rfl dX3_requireElement_22
    · exact z_throw X XX ht hl9 (ik := 183) (is := 185) (ic := 187) (cls := "java/lang/IndexOutOfBoundsException") 2 rfl (by decide +kernel) zw346 zw12 zat_187 dX3_requireElement_12 dX3_requireElement_15 dX3_requireElement_16 dX3_requireElement_18 dX3_requireElement_21 (by decide) (by decide) (by decide) (by decide) (by decide) (by decide) () (⟨rfl, by omega⟩) (rfl)
set_option maxHeartbeats 8000000 in
set_option maxRecDepth 100000 in
theorem c_X3_requireRoom (l : Launch) (hl9 : l.stackTraces = false) {D : va_G} {ad sa : Nat → Nat} {cI cO : ClassId} (S : zS) {md : Int} (hmd : S.2.2.2.2.1 = md) (hm : 0 ≤ md ∧ md ≤ 120) : zTv l yX3_requireRoom cX3_requireRoom 1 6 1 D (zTy cI cO) 419 ad sa [.ref (ad 0)] (gC ad cI cO S) (fun _ : Unit => gC ad cI cO S) (fun _ => md < 120) (fun E _ => E = "java/lang/IllegalStateException" ∧ ¬ md < 120) := by
  rw [← hmd] at hm
  subst hmd
  refine z_gotv zm_X3_requireRoom (Nat.le_of_ble_eq_true rfl) [(0, .ref (ad 0))] rfl (fun p e s m args below meth c A X XX ht E => ?_)
  refine z_aload_n X 0 rfl rfl dX3_requireRoom_0 ?_
  refine z_get X zinX3 0 (by omega) gC_T (ci := 5) rfl 1 (by decide) (ref := "TowerFields") zw121 rfl rfl dX3_requireRoom_1 ?_
  refine z_bipush X (n := 120) (by decide) dX3_requireRoom_4 ?_
  refine z_icmp_lt X (tgt := 19) (by omega) (by omega) dX3_requireRoom_6 (by decide) (fun hb6 => ?_) (fun hb6 => ?_)
  · exact E () (by decide) (by decide) (by omega) rfl dX3_requireRoom_19
  · exact z_throw X XX ht hl9 (ik := 188) (is := 190) (ic := 192) (cls := "java/lang/IllegalStateException") 0 rfl (by decide +kernel) zw255 zw11 zat_192 dX3_requireRoom_9 dX3_requireRoom_12 dX3_requireRoom_13 dX3_requireRoom_15 dX3_requireRoom_18 (by decide) (by decide) (by decide) (by decide) (by decide) (by decide) () (⟨rfl, by omega⟩) (rfl)
