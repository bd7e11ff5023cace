/-! the law's world; calls that catch; the wrappers' contracts -/
def zLws : List Cond := [(Jvm.Cond.codeWith ({ cls := "TowerFieldsLaw", name := "number", desc := "(LTowerFields;JJ[J)I" } : Jvm.MethodName) method_3_code (7 : Nat) (Option.some Jvm.ClassFile.FieldType.int) [((0 : Nat), (11 : Nat), (14 : Nat), (13 : Nat)), ((0 : Nat), (11 : Nat), (18 : Nat), (15 : Nat))]), (Jvm.Cond.codeWith ({ cls := "TowerFieldsLaw", name := "base", desc := "(LTowerFields;[J)I" } : Jvm.MethodName) method_4_code (3 : Nat) (Option.some Jvm.ClassFile.FieldType.int) [((0 : Nat), (8 : Nat), (11 : Nat), (13 : Nat))]), (Jvm.Cond.codeWith ({ cls := "TowerFieldsLaw", name := "letter", desc := "(LTowerFields;II[J)I" } : Jvm.MethodName) method_5_code (5 : Nat) (Option.some Jvm.ClassFile.FieldType.int) [((0 : Nat), (10 : Nat), (13 : Nat), (25 : Nat)), ((0 : Nat), (10 : Nat), (17 : Nat), (13 : Nat)), ((0 : Nat), (10 : Nat), (21 : Nat), (27 : Nat))]), (Jvm.Cond.codeWith ({ cls := "TowerFieldsLaw", name := "top", desc := "(LTowerFields;[J)I" } : Jvm.MethodName) method_6_code (3 : Nat) (Option.some Jvm.ClassFile.FieldType.int) [((0 : Nat), (8 : Nat), (11 : Nat), (13 : Nat)), ((0 : Nat), (8 : Nat), (14 : Nat), (27 : Nat))]), (Jvm.Cond.codeWith ({ cls := "TowerFieldsLaw", name := "add", desc := "(LTowerFields;II[J)I" } : Jvm.MethodName) method_7_code (5 : Nat) (Option.some Jvm.ClassFile.FieldType.int) [((0 : Nat), (10 : Nat), (13 : Nat), (25 : Nat)), ((0 : Nat), (10 : Nat), (17 : Nat), (13 : Nat))]), (Jvm.Cond.codeWith ({ cls := "TowerFieldsLaw", name := "less", desc := "(LTowerFields;II[J)I" } : Jvm.MethodName) method_8_code (5 : Nat) (Option.some Jvm.ClassFile.FieldType.int) [((0 : Nat), (10 : Nat), (13 : Nat), (25 : Nat)), ((0 : Nat), (10 : Nat), (17 : Nat), (13 : Nat))]), (Jvm.Cond.codeWith ({ cls := "TowerFieldsLaw", name := "times", desc := "(LTowerFields;II[J)I" } : Jvm.MethodName) method_9_code (5 : Nat) (Option.some Jvm.ClassFile.FieldType.int) [((0 : Nat), (10 : Nat), (13 : Nat), (25 : Nat)), ((0 : Nat), (10 : Nat), (17 : Nat), (13 : Nat))]), (Jvm.Cond.codeWith ({ cls := "TowerFieldsLaw", name := "over", desc := "(LTowerFields;II[J)I" } : Jvm.MethodName) method_10_code (5 : Nat) (Option.some Jvm.ClassFile.FieldType.int) [((0 : Nat), (10 : Nat), (13 : Nat), (25 : Nat)), ((0 : Nat), (10 : Nat), (17 : Nat), (13 : Nat))]), (Jvm.Cond.codeWith ({ cls := "TowerFieldsLaw", name := "derive", desc := "(LTowerFields;I[J)I" } : Jvm.MethodName) method_11_code (4 : Nat) (Option.some Jvm.ClassFile.FieldType.int) [((0 : Nat), (9 : Nat), (12 : Nat), (25 : Nat)), ((0 : Nat), (9 : Nat), (15 : Nat), (13 : Nat))]), (Jvm.Cond.codeWith ({ cls := "TowerFieldsLaw", name := "logarithmic", desc := "(LTowerFields;I[J)I" } : Jvm.MethodName) method_12_code (4 : Nat) (Option.some Jvm.ClassFile.FieldType.int) [((0 : Nat), (9 : Nat), (12 : Nat), (25 : Nat)), ((0 : Nat), (9 : Nat), (15 : Nat), (13 : Nat))]), (Jvm.Cond.codeWith ({ cls := "TowerFieldsLaw", name := "part", desc := "(LTowerFields;II[J)I" } : Jvm.MethodName) method_13_code (5 : Nat) (Option.some Jvm.ClassFile.FieldType.int) [((0 : Nat), (10 : Nat), (13 : Nat), (25 : Nat)), ((0 : Nat), (10 : Nat), (17 : Nat), (13 : Nat)), ((0 : Nat), (10 : Nat), (21 : Nat), (27 : Nat))]), (Jvm.Cond.codeWith ({ cls := "TowerFieldsLaw", name := "common", desc := "(LTowerFields;II[J)I" } : Jvm.MethodName) method_14_code (5 : Nat) (Option.some Jvm.ClassFile.FieldType.int) [((0 : Nat), (10 : Nat), (13 : Nat), (25 : Nat)), ((0 : Nat), (10 : Nat), (17 : Nat), (13 : Nat))]), (Jvm.Cond.codeWith ({ cls := "TowerFieldsLaw", name := "same", desc := "(LTowerFields;II[J)I" } : Jvm.MethodName) method_15_code (5 : Nat) (Option.some Jvm.ClassFile.FieldType.int) [((0 : Nat), (17 : Nat), (20 : Nat), (25 : Nat))]), (Jvm.Cond.codeWith ({ cls := "TowerFieldsLaw", name := "constant", desc := "(LTowerFields;I[J)I" } : Jvm.MethodName) method_16_code (4 : Nat) (Option.some Jvm.ClassFile.FieldType.int) [((0 : Nat), (16 : Nat), (19 : Nat), (25 : Nat))]), (Jvm.Cond.codeWith ({ cls := "TowerFieldsLaw", name := "low", desc := "(LTowerFields;I[J)I" } : Jvm.MethodName) method_17_code (4 : Nat) (Option.some Jvm.ClassFile.FieldType.int) [((0 : Nat), (16 : Nat), (19 : Nat), (25 : Nat))]), (Jvm.Cond.codeWith ({ cls := "TowerFieldsLaw", name := "at", desc := "(LTowerFields;IIII[J)I" } : Jvm.MethodName) method_18_code (7 : Nat) (Option.some Jvm.ClassFile.FieldType.int) [((0 : Nat), (14 : Nat), (17 : Nat), (25 : Nat)), ((0 : Nat), (14 : Nat), (21 : Nat), (27 : Nat))])]
def zNcl : List (String × String) := [("java/lang/IllegalStateException", "java/lang/ArithmeticException"), ("java/lang/IllegalStateException", "java/lang/IndexOutOfBoundsException"), ("java/lang/IllegalStateException", "java/lang/IllegalArgumentException"), ("java/lang/ArithmeticException", "java/lang/IllegalStateException"), ("java/lang/ArithmeticException", "java/lang/IndexOutOfBoundsException"), ("java/lang/ArithmeticException", "java/lang/IllegalArgumentException"), ("java/lang/IndexOutOfBoundsException", "java/lang/IllegalStateException"), ("java/lang/IndexOutOfBoundsException", "java/lang/ArithmeticException"), ("java/lang/IndexOutOfBoundsException", "java/lang/IllegalArgumentException"), ("java/lang/IllegalArgumentException", "java/lang/IllegalStateException"), ("java/lang/IllegalArgumentException", "java/lang/ArithmeticException"), ("java/lang/IllegalArgumentException", "java/lang/IndexOutOfBoundsException")]
theorem zLws_ok : zLws.all (fun w => w.onTables && w.keepsFace) = true := by decide +kernel
theorem zLws_t {w : Cond} (h : w ∈ zLws) : w.onTables = true ∧ w.keepsFace = true := by
  have := List.all_eq_true.mp zLws_ok w h
  rw [Bool.and_eq_true] at this
  exact this
/-- the wrappers' words: their code with its handlers, and which class of exceptions isn't another -/
def zLx (U : State) : Prop := (∀ w ∈ zLws, va_Nw w U) ∧ ∀ q ∈ zNcl, va_Nc q.1 q.2 U
theorem zLx.warm {s U : State} (hW : s.WarmedH U.vm) (h : zLx s) : zLx U := ⟨fun w hw => va_Nw.same (zLws_t hw).1 (rfl : (s.setVm U.vm).vm = U.vm) (Cond.rides hW.wide (zLws_t hw).2 (h.1 w hw)), fun q hq => va_Nc.moved hW.alike (h.2 q hq)⟩
theorem zLx.same {u U : State} (e : u.vm = U.vm) (h : zLx u) : zLx U := ⟨fun w hw => va_Nw.same (zLws_t hw).1 e (h.1 w hw), fun q hq => va_Nc.moved (by rw [e]; exact Vm.Alike.refl U.vm) (h.2 q hq)⟩
abbrev zTy3 (cI cO cJ : ClassId) : List (ClassId × FieldType) := [(cI, .int), (cO, .object "TowerFields$Line"), (cJ, .long)]
/-! a contract over a smaller world, seen from a greater -/
section UP
variable {l : Launch} {y : MethodName} {cc : ByteArray} {maxL lev k9 : Nat} {ret : Option FieldType} {D : va_G} {tys tys9 : List (ClassId × FieldType)} {N N9 e : Nat} {ad ad9 sa : Nat → Nat} {av : List Value} {g g9 : Nat → va_E}
theorem zAd_up {sz q : Nat} (hN : e + N9 ≤ N) (had : ∀ i, i < N9 → ad9 i = ad (e + i)) (h : zAd N9 ad9 sz q) : zAd N ad sz q := by
  rcases h with ⟨k, hk, rfl⟩ | h
  · exact Or.inl ⟨e + k, by omega, had k hk⟩
  · exact Or.inr h
theorem zPre_up {sz : Nat} {s : State} (hN : e + N9 ≤ N) (had : ∀ i, i < N9 → ad9 i = ad (e + i)) (hs : ∀ (i : Nat) (q : ClassId × FieldType), tys9[i]? = some q → tys[i]? = some q) (hg : ∀ k, k < N9 → g9 k = g (e + k)) (h : zPre D tys N ad g sz s) : zPre D tys9 N9 ad9 g9 sz s := by
  obtain ⟨h1, h2, h3, h4⟩ := h
  refine ⟨h1, ⟨⟨h2.1.1, fun i q hq => h2.1.2 i q (hs i q hq)⟩, h2.2⟩, fun i j hi hj h => ?_, zP_at.mpr (fun k hk => ?_)⟩
  · rw [had i hi, had j hj] at h
    have := h3 _ _ (by omega) (by omega) h
    omega
  · rw [had k hk, hg k hk]
    exact zP_at.mp h4 _ (by omega)
theorem zP_back {sz : Nat} {s t : State} {G9 G : Nat → va_E} (hN : e + N9 ≤ N) (had : ∀ i, i < N9 → ad9 i = ad (e + i)) (h : zPre D tys N ad g sz s) (hF : va_F (zAd N9 ad9 sz) s t) (hP : zP D N9 ad9 G9 t.heap) (hG1 : ∀ k, k < N9 → G (e + k) = G9 k) (hG2 : ∀ k, k < N → ¬ (e ≤ k ∧ k < e + N9) → G k = g k) : zP D N ad G t.heap := by
  obtain ⟨h1, h2, h3, h4⟩ := h
  refine zP_at.mpr (fun k hk => ?_)
  by_cases hr : e ≤ k ∧ k < e + N9
  · have e1 : k = e + (k - e) := by omega
    rw [e1, hG1 _ (by omega), ← had _ (by omega)]
    exact zP_at.mp hP _ (by omega)
  · rw [hG2 k hk hr]
    have hlt : ad k < s.heap.size := vx_lt h4 (z_w_get hk)
    refine (zP_at.mp h4 k hk).kept (hF.2 _ hlt (fun z => ?_))
    rcases z with ⟨j, hj, e1⟩ | z
    · have e2 : ad k = ad9 j := e1
      rw [had j hj] at e2
      have := h3 _ _ hk (by omega) e2
      omega
    · have e3 : sz ≤ ad k := z
      omega
theorem zMi_up {S : Type} {G9 G : S → Nat → va_E} {post : Int → S → Prop} (e : Nat) (hN : e + N9 ≤ N) (had : ∀ i, i < N9 → ad9 i = ad (e + i)) (hs : ∀ (i : Nat) (q : ClassId × FieldType), tys9[i]? = some q → tys[i]? = some q) (hg : ∀ k, k < N9 → g9 k = g (e + k)) (hG1 : ∀ u k, k < N9 → G u (e + k) = G9 u k) (hG2 : ∀ u k, k < N → ¬ (e ≤ k ∧ k < e + N9) → G u k = g k) (h : zMi l y cc maxL ret lev D tys9 N9 ad9 av g9 G9 post) : zMi l y cc maxL ret lev D tys N ad av g G post := by
  intro sz p e9 ha hc hk s m args below hf happ hp hk9
  obtain ⟨n, o, h1, h2, h3, ⟨⟨r, u, q1, ⟨q2, q6⟩, q3⟩, q4⟩, L, q5, q7⟩ := h sz p e9 ha hc hk s m args below hf happ ⟨hp.1, zPre_up hN had hs hg hp.2⟩ hk9
  exact ⟨n, o, h1, h2, h3, ⟨⟨r, u, q1, ⟨q2, q6⟩, zP_back hN had hp.2 q4 q3 (hG1 u.2) (hG2 u.2)⟩, q4.1, fun q b1 b2 => q4.2 q b1 (fun z => b2 (zAd_up hN had z))⟩, L, q5, fun q hq => zAd_up hN had (q7 q hq)⟩
theorem zTi_up {S : Type} {G9 G : S → Nat → va_E} {post : Int → S → Prop} {px : String → S → Prop} (e : Nat) (hN : e + N9 ≤ N) (had : ∀ i, i < N9 → ad9 i = ad (e + i)) (hs : ∀ (i : Nat) (q : ClassId × FieldType), tys9[i]? = some q → tys[i]? = some q) (hg : ∀ k, k < N9 → g9 k = g (e + k)) (hG1 : ∀ u k, k < N9 → G u (e + k) = G9 u k) (hG2 : ∀ u k, k < N → ¬ (e ≤ k ∧ k < e + N9) → G u k = g k) (h : zTi l y cc maxL ret lev k9 D tys9 N9 ad9 sa av g9 G9 post px) : zTi l y cc maxL ret lev k9 D tys N ad sa av g G post px := by
  intro sz p e9 ha hc hk s m args below hf happ hp hk9
  have hX : zX (zAd N9 ad9 sz) sa s := ⟨hp.2.2.1, hp.2.2.2.1.narrow (fun q hq => zAd_up hN had hq), hp.2.2.2.2.1.narrow (fun q hq => zAd_up hN had hq), hp.2.2.2.2.2⟩
  obtain ⟨n, o, h1, h2, h3, h4⟩ := h sz p e9 ha hc hk s m args below hf happ ⟨hp.1, zPre_up hN had hs hg hp.2.1, hX⟩ hk9
  refine ⟨n, o, h1, h2, h3, ?_⟩
  rcases h4 with ⟨⟨⟨r, u, q1, ⟨q2, q6⟩, q3⟩, q4⟩, L, q5, q7⟩ | ⟨q, q1, E, ce, L, ⟨u, q2, ⟨q3, q8⟩, q4⟩, q5, q6, q7, q9, r1, r2⟩
  · exact Or.inl ⟨⟨⟨r, u, q1, ⟨q2, q6⟩, zP_back hN had hp.2.1 q4 q3 (hG1 u.2) (hG2 u.2)⟩, q4.1, fun q b1 b2 => q4.2 q b1 (fun z => b2 (zAd_up hN had z))⟩, L, q5, fun q hq => zAd_up hN had (q7 q hq)⟩
  · exact Or.inr ⟨q, q1, E, ce, L, ⟨u, q2, ⟨q3, zP_back hN had hp.2.1 q4 q8 (hG1 u) (hG2 u)⟩, q4.1, fun q b1 b2 => q4.2 q b1 (fun z => b2 (zAd_up hN had z))⟩, q5, q6, q7, q9, r1, fun z hz => zAd_up hN had (r2 z hz)⟩
end UP
/-! the law's world: the class at 0, the reference at 419, the answer's place at 437 -/
def gL (ad : Nat → Nat) (cI cO cJ : ClassId) (S : zS) (M : zM) (f : Nat → Int64) (k : Nat) : va_E := if k < 419 then gC ad cI cO S k else if k < 437 then gM (fun i => ad (419 + i)) cI M (k - 419) else .inl (cJ, 1, .inr (.inl f))
section
variable {ad : Nat → Nat} {cI cO cJ : ClassId} {S : zS} {M : zM} {f : Nat → Int64} {k : Nat}
theorem gL_C (h : k < 419) : gL ad cI cO cJ S M f k = gC ad cI cO S k := if_pos h
theorem gL_M (h : k < 18) : gL ad cI cO cJ S M f (419 + k) = gM (fun i => ad (419 + i)) cI M k := by rw [gL, if_neg (by omega), if_pos (by omega), Nat.add_sub_cancel_left]
theorem gL_f : gL ad cI cO cJ S M f 437 = .inl (cJ, 1, .inr (.inl f)) := by rw [gL, if_neg (by omega), if_neg (by omega)]
theorem gL_set {f9 : Nat → Int64} (j : Nat) (hj : j < 438) : va_up (gL ad cI cO cJ S M f) 437 (.inl (cJ, 1, .inr (.inl f9))) j = gL ad cI cO cJ S M f9 j := by
  by_cases e : j = 437
  · rw [e, va_up_self, gL_f]
  · rw [va_up_ne _ _ e]
    unfold gL
    by_cases h : j < 419
    · rw [if_pos h, if_pos h]
    · rw [if_neg h, if_neg h, if_pos (by omega), if_pos (by omega)]
end
theorem zTi_L {l : Launch} {y : MethodName} {cc : ByteArray} {maxL lev k9 : Nat} {ret : Option FieldType} {D : va_G} {ad sa : Nat → Nat} {cI cO cJ : ClassId} {av : List Value} {S : zS} {M : zM} {f : Nat → Int64} {post : Int → zS → Prop} {px : String → zS → Prop} (h : zTi l y cc maxL ret lev k9 D (zTy cI cO) 419 ad sa av (gC ad cI cO S) (gC ad cI cO) post px) : zTi l y cc maxL ret lev k9 D (zTy3 cI cO cJ) 438 ad sa av (gL ad cI cO cJ S M f) (fun u => gL ad cI cO cJ u M f) post px :=
  zTi_up 0 (by omega) (fun i _ => by rw [Nat.zero_add]) (fun i q hq => by
    rcases (by have := (List.getElem?_eq_some_iff.mp hq).1; simp at this; omega : i = 0 ∨ i = 1) with rfl | rfl
    · exact hq
    · exact hq) (fun k hk => by rw [Nat.zero_add, gL_C hk]) (fun u k hk => by rw [Nat.zero_add, gL_C hk]) (fun u k hk hn => by
    unfold gL
    have h9 : ¬ k < 419 := by omega
    simp only [if_neg h9]) h
theorem zMi_LC {l : Launch} {y : MethodName} {cc : ByteArray} {maxL lev : Nat} {ret : Option FieldType} {D : va_G} {ad : Nat → Nat} {cI cO cJ : ClassId} {av : List Value} {S : zS} {M : zM} {f : Nat → Int64} {post : Int → Unit → Prop} (h : zMi l y cc maxL ret lev D (zTy cI cO) 419 ad av (gC ad cI cO S) (fun _ : Unit => gC ad cI cO S) post) : zMi l y cc maxL ret lev D (zTy3 cI cO cJ) 438 ad av (gL ad cI cO cJ S M f) (fun _ : Unit => gL ad cI cO cJ S M f) post :=
  zMi_up 0 (by omega) (fun i _ => by rw [Nat.zero_add]) (fun i q hq => by
    rcases (by have := (List.getElem?_eq_some_iff.mp hq).1; simp at this; omega : i = 0 ∨ i = 1) with rfl | rfl
    · exact hq
    · exact hq) (fun k hk => by rw [Nat.zero_add, gL_C hk]) (fun u k hk => by rw [Nat.zero_add, gL_C hk]) (fun u k hk hn => rfl) h
theorem zMi_LM {S9 : Type} {l : Launch} {y : MethodName} {cc : ByteArray} {maxL lev : Nat} {ret : Option FieldType} {D : va_G} {ad : Nat → Nat} {cI cO cJ : ClassId} {av : List Value} {S : zS} {M : zM} {f : Nat → Int64} {F : S9 → zM} {post : Int → S9 → Prop} (h : zMi l y cc maxL ret lev D (zTyM cI) 18 (fun i => ad (419 + i)) av (gM (fun i => ad (419 + i)) cI M) (fun u => gM (fun i => ad (419 + i)) cI (F u)) post) : zMi l y cc maxL ret lev D (zTy3 cI cO cJ) 438 ad av (gL ad cI cO cJ S M f) (fun u => gL ad cI cO cJ S (F u) f) post :=
  zMi_up 419 (by omega) (fun i _ => rfl) (fun i q hq => by
    rcases (by have := (List.getElem?_eq_some_iff.mp hq).1; simp at this; omega : i = 0) with rfl
    exact hq) (fun k hk => by rw [gL_M hk]) (fun u k hk => by rw [gL_M hk]) (fun u k hk hn => by
    unfold gL
    by_cases h : k < 419
    · rw [if_pos h, if_pos h]
    · rw [if_neg h, if_neg h, if_neg (by omega), if_neg (by omega)]) h
section LR
variable {p : Program} {l : Launch} {e : Env} {R : Room} {s : State} {m : MethodId} {args : Array Value} {below : List Frame} {meth : Method} {c : Code} {cc : ByteArray} {nL : Nat} {own : String} {ret : Option FieldType} {D : va_G} {tys : List (ClassId × FieldType)} {N : Nat} {ad : Nat → Nat} {A : Nat → Prop} {cells slots : Nat} {Q : State → Prop} {pc : Nat} {lv : List (Nat × Value)} {st : List Value} {g : Nat → va_E}
theorem z_lald (X : zCx p s m args meth c cc nL own ret D tys N ad A) (a t0 : Nat) (hN : a < N) {cA : ClassId} {n : Nat} {f : Nat → Int64} {i : Int} (he : g a = .inl (cA, n, .inr (.inl f))) (ht : tys[t0]? = some (cA, .long)) (h0 : 0 ≤ i) (h1 : i < n) (hn : n < 2147483648) (hd : decode cc pc = .ok (.laload, 1)) (k : Z p l e R s m args below meth c nL D N ad A cells slots Q (pc + 1) lv (.long (f i.toNat) :: st) g) : Z p l e R s m args below meth c nL D N ad A cells slots Q pc lv (.int (iZ i) :: .ref (ad a) :: st) g := fun H locs ls hl hP hS =>
  va_lald (zx_e X) (zx_b X) (zx_K X).1 hP a t0 (by rw [z_w_get hN, he]) ht (iZ_in h0 h1 hn) hd (by rw [iZ_clamp h0 (by omega)]; exact k H locs ls hl hP hS)
theorem z_last (X : zCx p s m args meth c cc nL own ret D tys N ad A) (a t0 : Nat) (hN : a < N) {cA : ClassId} {n : Nat} {f : Nat → Int64} {i : Int} {x : Int64} (he : g a = .inl (cA, n, .inr (.inl f))) (ht : tys[t0]? = some (cA, .long)) (h0 : 0 ≤ i) (h1 : i < n) (hn : n < 2147483648) (hd : decode cc pc = .ok (.lastore, 1)) (k : Z p l e R s m args below meth c nL D N ad A cells slots Q (pc + 1) lv st (va_up g a (.inl (cA, n, .inr (.inl (vp_updL f i.toNat x)))))) : Z p l e R s m args below meth c nL D N ad A cells slots Q pc lv (.long x :: .int (iZ i) :: .ref (ad a) :: st) g := fun H locs ls hl hP hS =>
  va_last (zx_e X) (zx_b X) (zx_K X).1 hP (z_w_D (zx_I X) (zx_A X)) hS a t0 (by rw [z_w_get hN, he]) ht (iZ_in h0 h1 hn) hd (fun H1 locs1 hP1 _ hS1 => k H1 locs1 ls hl (by rw [z_w_set, iZ_clamp h0 (by omega)] at hP1; exact hP1) hS1)
/-- a call whose exceptions are caught here -/
theorem z_callViH {S0 : Type} {G0 : S0 → Nat → va_E} {post0 : Int → S0 → Prop} {px0 : String → S0 → Prop} {sa : Nat → Nat} (X : zCx p s m args meth c cc nL own ret D tys N ad A) (XX : zX A sa s) {y : MethodName} {cc' : ByteArray} {maxL' lev' k' n' index : Nat} {ret' : Option FieldType} (hm : zMe y cc' maxL' ret' n') (hin : Cond.instanceMethod y ∈ wsG) (hse : Cond.selects y.cls y y ∈ wsG) (hlink : Cond.methodLink own index y ∈ wsG) (hfit : zFitX R cells slots k' maxL' lev') (As : List Value) {b : Nat} (hM : zTi l y cc' maxL' ret' lev' k' D tys N ad sa (.ref (ad b) :: As) g G0 post0 px0) {stk : List Value} (hst : stk = As.reverse ++ .ref (ad b) :: st) (hn : As.length = n') (hW : (st.map fun v => v.category).sum ≤ 8) (hb : b < N) {ci : Nat} {fs : List Value} (he : g b = .inr (ci, fs)) {q : vw_C} (hc : vwCl[ci]? = some q) (hq : q.1 = y.cls) (hd : decode cc pc = .ok (.invokevirtual index, 3))
    (hx : ∀ E u, px0 E u → ∃ (pre : List ExceptionTableEntry) (x : ExceptionTableEntry) (suf : List ExceptionTableEntry) (name : String), c.exceptionTable.toList = pre ++ x :: suf ∧ (∀ z ∈ pre, covers z pc = false ∨ (z.catchType ≠ 0 ∧ ∃ nm : String, Cond.classLink own z.catchType nm ∈ wsG ∧ va_Nc E nm s)) ∧ covers x pc = true ∧ x.catchType ≠ 0 ∧ Cond.classLink own x.catchType name ∈ wsG ∧ (Cond.castable E name).before args s = true ∧ ∀ q9 : Nat, Z p l e R s m args below meth c nL D N ad A (cells + k') (slots + 6 * k') Q x.handlerPc lv [.ref q9] (G0 u))
    (kk : ∀ (z : Int) (u : S0), post0 z u → Z p l e R s m args below meth c nL D N ad A (cells + k') (slots + 6 * k') Q (pc + 3) lv (.int (iZ z) :: st) (G0 u)) : Z p l e R s m args below meth c nL D N ad A cells slots Q pc lv stk g := by
  intro H locs ls hl hP hS
  have hf := zAd_in X hS
  refine vx_calli (z_runVX X XX hm hin hse hlink hfit (hM H.size) hn hst hW hb he hc hq hd hl hP hS) hS (fun q _ h => hf q h) hf (fun q _ h => hf q h) (fun E ce q9 u t H1 locs1 ht1 hvm _ hBX hsz hkeep hS1 hcell hcv hcl => ?_) (fun r u t H1 locs1 ht1 hvm hw hB _ _ hS1 => ?_)
  · obtain ⟨pre, x, suf, name, e1, e2, e3, e4, e5, e6, e7⟩ := hx E u hBX.1
    have hz := hBX.2
    rw [ht1] at hz
    exact vx_catch (zx_o X) pre x suf e1 (fun z hz => (e2 z hz).imp id (fun ⟨a1, nm, a2, a3⟩ => ⟨a1, nm, zx_w X _ a2, a3⟩)) e3 e4 (zx_w X _ e5) e6 hcell hcv hcl (e7 q9 H1 locs1 ls hl hz hS1)
  · obtain ⟨z, u⟩ := u
    obtain ⟨rfl, hw⟩ := hw
    rw [ht1] at hB
    exact kk z u hw H1 locs1 ls hl hB hS1
end LR
/-! a wrapper's contract: it catches what the class throws -/
def zWsL (y : MethodName) (cc : ByteArray) (maxL : Nat) (hh : List (Nat × Nat × Nat × Nat)) : List Cond := Cond.codeWith y cc maxL (some .int) hh :: wsG
def zLi {S : Type} (l : Launch) (y : MethodName) (cc : ByteArray) (maxL : Nat) (hh : List (Nat × Nat × Nat × Nat)) (k : Nat) (D : va_G) (tys : List (ClassId × FieldType)) (N : Nat) (ad sa : Nat → Nat) (av : List Value) (g : Nat → va_E) (G : S → Nat → va_E) (post : Int → S → Prop) : Prop :=
  ∀ sz, vx_Met l y (zWsL y cc maxL hh) (zRx 9 k) (va_Pc av (fun U => zPx D tys N ad sa g sz U ∧ zLx U)) (zQi D N ad G post (zAd N ad sz)) (zXQ D N ad G (fun _ _ => False) (zAd N ad sz)) k (6 * k) (zAd N ad sz)
theorem zBlindL {D : va_G} {tys : List (ClassId × FieldType)} {N : Nat} {ad sa : Nat → Nat} {g : Nat → va_E} {sz : Nat} {av : List Value} : FrameBlind (va_Pc av (fun U => zPx D tys N ad sa g sz U ∧ zLx U)) := by
  intro a U g' mk ⟨h1, h2, h3⟩
  exact ⟨h1, (zBlindX a U g' mk ⟨h1, h2⟩).2, zLx.same (u := U) (U := U.calling g' mk a) rfl h3⟩
section LE
variable {l : Launch} {y : MethodName} {cc : ByteArray} {maxL k : Nat} {hh : List (Nat × Nat × Nat × Nat)} {D : va_G} {tys : List (ClassId × FieldType)} {N : Nat} {ad sa : Nat → Nat} {av : List Value} {g : Nat → va_E}
theorem z_startL {S : Type} {G : S → Nat → va_E} {post : Int → S → Prop} (hy : plainName y.cls = true) (hl : (lg_sl av).length ≤ maxL)
    (body : ∀ (p : Program) (e : Env) (s : State) (m : MethodId) (args : Array Value) (below : List Frame) (meth : Method) (c : Code) (A : Nat → Prop) (Q : State → Prop), zCx p s m args meth c cc maxL y.cls (some .int) D tys N ad A → zX A sa s → zLx s → c.exceptionTable.toList = tableOf hh →
      (∀ (z : Int) (u : S) {cells slots pc : Nat} {lv : List (Nat × Value)} {g9 : Nat → va_E}, cells ≤ k → slots ≤ 6 * k → post z u → (∀ j, j < N → g9 j = G u j) → decode cc pc = .ok (.ireturn, 1) → Z p l e (zRx 9 k) s m args below meth c maxL D N ad A cells slots Q pc lv [.int (iZ z)] g9) →
      Z p l e (zRx 9 k) s m args below meth c maxL D N ad A 0 0 Q 0 (lv_args 0 av) [] g) : zLi l y cc maxL hh k D tys N ad sa av g G post := by
  intro sz
  refine vx_ofWH (cc := cc) (maxL := maxL) (ret := some .int) (hh := hh) hy rfl ?_
  intro p e s m args below meth c s₁ B hml hv
  obtain ⟨rfl, ⟨⟨hsz, hK, hI, hP⟩, hX⟩, hL⟩ := hv
  subst hsz
  have hts : ∀ w ∈ zWsL y cc maxL hh, w.before av.toArray s = true := atoms_spec (ws := zWsL y cc maxL hh) B.pre
  have X : zCx p s m av.toArray meth c cc maxL y.cls (some .int) D tys N ad (zAd N ad s.heap.size) := ⟨B.exec, B.bytes, hml, findClass_of_methodNamed B.named, fun w hw => hts w (List.mem_cons_of_mem _ hw), hK, hI, fun k hk => Or.inl ⟨k, hk, rfl⟩, fun q hq => Or.inr hq, B.returns, B.notSynchronized⟩
  rw [lg_entry_eq]
  refine body p e s m av.toArray below meth c (zAd N ad s.heap.size) _ X hX hL (vx_table (x := y) B (hts _ List.mem_cons_self)) ?_ _ _ _ (lv_entry av hl) hP va_S.rf
  intro z u cells slots pc lv g9 h1 h2 hp hg hd
  exact z_cong (fun _ _ => rfl) (fun j hj => (hg j hj).symm) (z_retX h1 h2 (z_endi X u hp rfl hd))
end LE
section LC
variable {p : Program} {l : Launch} {e : Env} {R : Room} {s : State} {m : MethodId} {args : Array Value} {below : List Frame} {meth : Method} {c : Code} {cc : ByteArray} {nL : Nat} {own : String} {ret : Option FieldType} {D : va_G} {tys : List (ClassId × FieldType)} {N : Nat} {ad : Nat → Nat} {A : Nat → Prop} {cells slots : Nat} {Q : State → Prop} {pc : Nat} {lv : List (Nat × Value)} {st : List Value} {g : Nat → va_E}
/-- the law calls a wrapper -/
theorem z_callL {S : Type} {G : S → Nat → va_E} {post : Int → S → Prop} {sa : Nat → Nat} (X : zCx p s m args meth c cc nL own ret D tys N ad A) (XX : zX A sa s) (XL : zLx s) {y : MethodName} {cc' : ByteArray} {maxL' k' n' index : Nat} {hh : List (Nat × Nat × Nat × Nat)} (hcw : Cond.codeWith y cc' maxL' (some .int) hh ∈ zLws) (hini : Cond.initialized y.cls ∈ wsG) (hnh : y.cls ≠ "java/lang/invoke/MethodHandle" ∧ y.cls ≠ "java/lang/invoke/VarHandle") (hlen : (parseMethodDescriptor y.desc).map (fun d => d.parameters.length) = some n') (hsta : Cond.static y ∈ wsG) (hlink : Cond.methodLink own index y ∈ wsG) (hfit : zFitX R cells slots k' maxL' 9) (As : List Value) (hM : zLi l y cc' maxL' hh k' D tys N ad sa As g G post) {stk : List Value} (hst : stk = As.reverse ++ st) (hn : As.length = n') (hW : (st.map fun v => v.category).sum ≤ 8) (hd : decode cc pc = .ok (.invokestatic index, 3))
    (kk : ∀ (z : Int) (u : S), post z u → Z p l e R s m args below meth c nL D N ad A (cells + k') (slots + 6 * k') Q (pc + 3) lv (.int (iZ z) :: st) (G u)) : Z p l e R s m args below meth c nL D N ad A cells slots Q pc lv stk g := by
  intro H locs ls hl hP hS
  have hf := zAd_in X hS
  have hK := zx_K X
  have hpay : ∀ w ∈ zWsL y cc' maxL' hh, ∀ (a' : Array Value) (U : State), s.WarmedH U.vm → w.before a' U = true := by
    intro w hw a' U hW9
    rcases List.mem_cons.mp hw with h | h
    · rw [h]
      exact va_Nw.use (zLws_t hcw).1 ((XL.warm hW9).1 _ hcw)
    · exact word_at hW9 (good_of_word (wsG_good h)) (zx_w X w h)
  refine vx_calli (vx_runSX (Ts := wsG) (hh := hh) ⟨zx_e X, zx_b X, zx_m X, zx_o X, zx_w X⟩ (hM H.size) ⟨⟨rfl, rfl, hfit.1, hfit.2.1, hpay, List.mem_cons_self⟩, va_Nw.use (zLws_t hcw).1 (XL.1 _ hcw), zx_w X _ hini, hnh, fun sig h => (by rw [h] at hlen; exact (Option.some.inj hlen).symm), zx_w X _ hlink, zx_w X _ hsta⟩ ⟨zBlindL, fun U hU hW9 => ⟨rfl, ⟨⟨by rw [hU], hK.warm hW9, zx_I X, by rw [hU]; exact hP⟩, XX.on hS hU hW9 (zAd_in X hS)⟩, XL.warm hW9⟩⟩ rfl hn hl.1 hst (lv_room hW) hd ⟨hfit.2.2.1, hfit.2.2.2⟩) hS (fun q _ h => hf q h) hf (fun q _ h => hf q h) (fun E ce q9 u t H1 locs1 ht1 hvm _ hBX hsz hkeep hS1 hcell hcv hcl => hBX.1.elim) (fun r u t H1 locs1 ht1 hvm hw hB _ _ hS1 => ?_)
  obtain ⟨z, u⟩ := u
  obtain ⟨rfl, hw⟩ := hw
  rw [ht1] at hB
  exact kk z u hw H1 locs1 ls hl hB hS1
end LC
