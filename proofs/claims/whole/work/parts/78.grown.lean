/-! worlds that grow -/
def zg {α : Type} (n : Nat) (f h : Nat → α) : Nat → α := fun k => if k < n then f k else h (k - n)
theorem zg_l {α : Type} {n k : Nat} {f h : Nat → α} (q : k < n) : zg n f h k = f k := if_pos q
theorem zg_r {α : Type} {n k : Nat} {f h : Nat → α} (q : n ≤ k) : zg n f h k = h (k - n) := if_neg (by omega)
theorem z_w_app {a b : Nat} {ad ad9 : Nat → Nat} {g g9 : Nat → va_E} : z_w a ad g ++ z_w b ad9 g9 = z_w (a + b) (zg a ad ad9) (zg a g g9) := by
  apply List.ext_getElem?
  intro j
  have hl : (z_w a ad g).length = a := by simp [z_w]
  by_cases h1 : j < a
  · rw [List.getElem?_append_left (by omega), z_w_get h1, z_w_get (by omega), zg_l h1, zg_l h1]
  · rw [List.getElem?_append_right (by omega), hl]
    by_cases h2 : j < a + b
    · rw [z_w_get (by omega), z_w_get h2, zg_r (by omega), zg_r (by omega)]
    · rw [List.getElem?_eq_none (by simp [z_w]; omega), List.getElem?_eq_none (by simp [z_w]; omega)]
theorem z_w_1 {N : Nat} {ad : Nat → Nat} {g : Nat → va_E} (q : Nat) (e : va_E) : z_w N ad g ++ [(q, e)] = z_w (N + 1) (zg N ad (fun _ => q)) (zg N g (fun _ => e)) := by
  rw [← z_w_app]; rfl
theorem z_D_I {N : Nat} {ad : Nat → Nat} {g : Nat → va_E} {A : Nat → Prop} (h : va_D A (z_w N ad g)) : zInj N ad := fun i j hi hj e => h.1 i j _ _ (z_w_get hi) (z_w_get hj) e
theorem z_D_A {N : Nat} {ad : Nat → Nat} {g : Nat → va_E} {A : Nat → Prop} (h : va_D A (z_w N ad g)) : ∀ k, k < N → A (ad k) := fun k hk => h.2 k _ (z_w_get hk)
/-- a world's cells, one by one -/
theorem zP_at {D : va_G} {N : Nat} {ad : Nat → Nat} {g : Nat → va_E} {H : Heap} : zP D N ad g H ↔ ∀ k, k < N → va_at D vwCl (ad k, g k) H := ⟨fun h k hk => h k _ (z_w_get hk), fun h k q hq => by
  obtain ⟨h1, rfl⟩ := z_w_some hq
  exact h k h1⟩
theorem zP_cong {D : va_G} {N : Nat} {ad ad9 : Nat → Nat} {g g9 : Nat → va_E} {H : Heap} (h : zP D N ad g H) (e1 : ∀ k, k < N → ad9 k = ad k) (e2 : ∀ k, k < N → g9 k = g k) : zP D N ad9 g9 H := zP_at.mpr (fun k hk => by rw [e1 k hk, e2 k hk]; exact zP_at.mp h k hk)
theorem z_stq {p : Program} {l : Launch} {e : Env} {R : Room} {s : State} {m : MethodId} {args : Array Value} {below : List Frame} {meth : Method} {c : Code} {nL : Nat} {D : va_G} {N : Nat} {ad : Nat → Nat} {A : Nat → Prop} {cells slots : Nat} {Q : State → Prop} {pc : Nat} {lv : List (Nat × Value)} {st st9 : List Value} {g : Nat → va_E} (h : st9 = st) (k : Z p l e R s m args below meth c nL D N ad A cells slots Q pc lv st9 g) : Z p l e R s m args below meth c nL D N ad A cells slots Q pc lv st g := h ▸ k
def zRc (lev k n : Nat) : Room := { frames := lev, cells := k, slots := n, locals := 40 * lev }
section ZGR
variable {p : Program} {l : Launch} {e : Env} {R : Room} {s : State} {m : MethodId} {args : Array Value} {below : List Frame} {meth : Method} {c : Code} {cc : ByteArray} {nL : Nat} {own : String} {ret : Option FieldType} {D : va_G} {tys : List (ClassId × FieldType)} {N : Nat} {ad : Nat → Nat} {A : Nat → Prop} {cells slots : Nat} {Q : State → Prop} {pc : Nat} {lv : List (Nat × Value)} {st : List Value} {g : Nat → va_E}
theorem zx_re (X : zCx p s m args meth c cc nL own ret D tys N ad A) {N9 : Nat} {ad9 : Nat → Nat} (hI : zInj N9 ad9) (hA : ∀ k, k < N9 → A (ad9 k)) : zCx p s m args meth c cc nL own ret D tys N9 ad9 A := ⟨X.1, X.2.1, X.2.2.1, X.2.2.2.1, X.2.2.2.2.1, X.2.2.2.2.2.1, hI, hA, X.2.2.2.2.2.2.2.2⟩
theorem z_cong {g9 : Nat → va_E} {ad9 : Nat → Nat} (e1 : ∀ k, k < N → ad9 k = ad k) (e2 : ∀ k, k < N → g9 k = g k) (k : Z p l e R s m args below meth c nL D N ad9 A cells slots Q pc lv st g9) : Z p l e R s m args below meth c nL D N ad A cells slots Q pc lv st g := fun H locs ls hl hP hS => k H locs ls hl (zP_cong hP e1 e2) hS
theorem z_new (X : zCx p s m args meth c cc nL own ret D tys N ad A) {C : String} {T : u_T} {NF ci index : Nat} (hin : ∀ w ∈ u_ws C T NF, w ∈ wsG) (ty0 : Nat → FieldType) (hty : ∀ k, k < NF → parseFieldDescriptor (T k).2.2.1 = some (ty0 k)) (hc : vwCl[ci]? = some (C, T, NF)) {fs : List Value} (hfs : ∀ j, j < NF → defaultValue (ty0 j) = vp_V fs j) (hcl : Cond.classLink own index C ∈ wsG) (hinst : Cond.instantiable C NF ∈ wsG) (hini : Cond.initialized C ∈ wsG) (hcells : cells + 1 ≤ R.cells) (hslots : slots + NF ≤ R.slots) (hd : decode cc pc = .ok (.new index, 3))
    (k : ∀ q : Nat, zCx p s m args meth c cc nL own ret D tys (N + 1) (zg N ad (fun _ => q)) A → Z p l e R s m args below meth c nL D (N + 1) (zg N ad (fun _ => q)) A (cells + 1) (slots + NF) Q (pc + 3) lv (.ref q :: st) (zg N g (fun _ => .inr (ci, fs)))) : Z p l e R s m args below meth c nL D N ad A cells slots Q pc lv st g := fun H locs ls hl hP hS =>
  va_new (zx_e X) (zx_b X) (zx_w X) hin ty0 hty (zx_o X) (zx_w X _ hcl) (zx_w X _ hinst) (zx_w X _ hini) (zx_K X).1 hP (z_w_D (zx_I X) (zx_A X)) hS (zx_F X) hc hfs hcells hslots hd (fun q H1 hP1 hD1 hS1 => by
    rw [z_w_1] at hP1 hD1
    exact k q (zx_re X (z_D_I hD1) (z_D_A hD1)) H1 locs ls hl hP1 hS1)
theorem z_newI (X : zCx p s m args meth c cc nL own ret D tys N ad A) (t0 : Nat) {cI : ClassId} (ht : tys[t0]? = some (cI, .int)) {n : Int} {n9 : Nat} (h0 : 0 ≤ n) (h1 : n < 2147483648) (hn : n.toNat = n9) (hb : n9 * 4 ≤ 536870912) (hcells : cells + 1 ≤ R.cells) (hslots : slots + n9 ≤ R.slots) (hd : decode cc pc = .ok (.newarray .int, 2))
    (k : ∀ q : Nat, zCx p s m args meth c cc nL own ret D tys (N + 1) (zg N ad (fun _ => q)) A → Z p l e R s m args below meth c nL D (N + 1) (zg N ad (fun _ => q)) A (cells + 1) (slots + n9) Q (pc + 2) lv (.ref q :: st) (zg N g (fun _ => .inl (cI, n9, .inl (fun _ => 0))))) : Z p l e R s m args below meth c nL D N ad A cells slots Q pc lv (.int (iZ n) :: st) g := fun H locs ls hl hP hS =>
  va_newa (atype := .int) (ty := .int) (a0 := (n9, .inl (fun _ => 0))) (zx_e X) (zx_b X) (zx_w X _ zw39) rfl (zx_K X).1 hP (z_w_D (zx_I X) (zx_A X)) hS (zx_F X) (fun cA => rfl) (fun q => by have := Int32.lt_iff_toInt_lt.mp q; rw [iZ_toInt (by omega) h1] at this; exact absurd this (by show ¬ n < 0; omega)) (by rw [iZ_clamp h0 h1]; exact hn) hb hcells hslots hd (fun q cA H1 hK1 hP1 hD1 hS1 => by
    have e1 : s.vm.findClass ("[" ++ (FieldType.int).toString) = some cA := (hK1.2 tys.length (cA, .int) (by simp)).2
    have e2 : s.vm.findClass ("[" ++ (FieldType.int).toString) = some cI := ((zx_K X).1.2 t0 _ ht).2
    have e3 : cA = cI := Option.some.inj (e1.symm.trans e2)
    subst e3
    rw [z_w_1] at hP1 hD1
    exact k q (zx_re X (z_D_I hD1) (z_D_A hD1)) H1 locs ls hl hP1 hS1)
theorem z_newL (X : zCx p s m args meth c cc nL own ret D tys N ad A) (t0 : Nat) {cJ : ClassId} (ht : tys[t0]? = some (cJ, .long)) {n : Int} {n9 : Nat} (h0 : 0 ≤ n) (h1 : n < 2147483648) (hn : n.toNat = n9) (hb : n9 * 8 ≤ 536870912) (hcells : cells + 1 ≤ R.cells) (hslots : slots + n9 ≤ R.slots) (hd : decode cc pc = .ok (.newarray .long, 2))
    (k : ∀ q : Nat, zCx p s m args meth c cc nL own ret D tys (N + 1) (zg N ad (fun _ => q)) A → Z p l e R s m args below meth c nL D (N + 1) (zg N ad (fun _ => q)) A (cells + 1) (slots + n9) Q (pc + 2) lv (.ref q :: st) (zg N g (fun _ => .inl (cJ, n9, .inr (.inl (fun _ => 0)))))) : Z p l e R s m args below meth c nL D N ad A cells slots Q pc lv (.int (iZ n) :: st) g := fun H locs ls hl hP hS =>
  va_newa (atype := .long) (ty := .long) (a0 := (n9, .inr (.inl (fun _ => 0)))) (zx_e X) (zx_b X) (zx_w X _ zw917) rfl (zx_K X).1 hP (z_w_D (zx_I X) (zx_A X)) hS (zx_F X) (fun cA => rfl) (fun q => by have := Int32.lt_iff_toInt_lt.mp q; rw [iZ_toInt (by omega) h1] at this; exact absurd this (by show ¬ n < 0; omega)) (by rw [iZ_clamp h0 h1]; exact hn) hb hcells hslots hd (fun q cA H1 hK1 hP1 hD1 hS1 => by
    have e1 : s.vm.findClass ("[" ++ (FieldType.long).toString) = some cA := (hK1.2 tys.length (cA, .long) (by simp)).2
    have e2 : s.vm.findClass ("[" ++ (FieldType.long).toString) = some cJ := ((zx_K X).1.2 t0 _ ht).2
    have e3 : cA = cJ := Option.some.inj (e1.symm.trans e2)
    subst e3
    rw [z_w_1] at hP1 hD1
    exact k q (zx_re X (z_D_I hD1) (z_D_A hD1)) H1 locs ls hl hP1 hS1)
theorem z_newQ (X : zCx p s m args meth c cc nL own ret D tys N ad A) (t0 : Nat) {cO : ClassId} {C : String} (ht : tys[t0]? = some (cO, .object C)) {index : Nat} (hcl : Cond.classLink own index C ∈ wsG) (hover : va_AO C s) {n : Int} {n9 : Nat} (h0 : 0 ≤ n) (h1 : n < 2147483648) (hn : n.toNat = n9) (hb : n9 * 4 ≤ 536870912) (hcells : cells + 1 ≤ R.cells) (hslots : slots + n9 ≤ R.slots) (hd : decode cc pc = .ok (.anewarray index, 3))
    (k : ∀ q : Nat, zCx p s m args meth c cc nL own ret D tys (N + 1) (zg N ad (fun _ => q)) A → Z p l e R s m args below meth c nL D (N + 1) (zg N ad (fun _ => q)) A (cells + 1) (slots + n9) Q (pc + 3) lv (.ref q :: st) (zg N g (fun _ => .inl (cO, n9, .inr (.inr (.inr (.inr (fun _ => none)))))))) : Z p l e R s m args below meth c nL D N ad A cells slots Q pc lv (.int (iZ n) :: st) g := fun H locs ls hl hP hS =>
  va_newq (zx_e X) (zx_b X) (zx_o X) (zx_w X _ hcl) hover (zx_K X).1 hP (z_w_D (zx_I X) (zx_A X)) hS (zx_F X) (fun q => by have := Int32.lt_iff_toInt_lt.mp q; rw [iZ_toInt (by omega) h1] at this; exact absurd this (by show ¬ n < 0; omega)) (by rw [iZ_clamp h0 h1]; exact hn) hb hcells hslots hd (fun q cA H1 hK1 hP1 hD1 hS1 => by
    obtain ⟨_, _, _, _, _, e1⟩ := (hK1.2 tys.length (cA, .object C) (by simp)).2
    obtain ⟨_, _, _, _, _, e2⟩ := ((zx_K X).1.2 t0 _ ht).2
    have e3 : cA = cO := Option.some.inj (e1.symm.trans e2)
    subst e3
    rw [z_w_1] at hP1 hD1
    exact k q (zx_re X (z_D_I hD1) (z_D_A hD1)) H1 locs ls hl hP1 hS1)
theorem z_putF (X : zCx p s m args meth c cc nL own ret D tys N ad A) (hnm0 : meth.name = "<init>") {ref C : String} {T : u_T} {NF ci index : Nat} (hin : ∀ w ∈ u_ws C T NF, w ∈ wsG) (ty0 : Nat → FieldType) (hty : ∀ k, k < NF → parseFieldDescriptor (T k).2.2.1 = some (ty0 k)) (hnm : ∀ a, a < NF → ∀ b, b < NF → a ≠ b → (T a).2.1 ≠ (T b).2.1) (a : Nat) (hN : a < N) {fs : List Value} (he : g a = .inr (ci, fs)) (hc : vwCl[ci]? = some (C, T, NF)) (q : Nat) (hq : q < NF) (hlink : Cond.fieldLink own index ref (T q).2.1 (T q).2.2.1 ∈ wsG) (hsame : (T q).1 = ref) (hfin : (T q).2.2.2 = true) (hown : (T q).1 = own) {ty : FieldType} {v : Value} (hdd : parseFieldDescriptor (T q).2.2.1 = some ty) (hn : narrow ty v = v) (hfit : fits ty v = true) (hl9 : q < fs.length) (hd : decode cc pc = .ok (.putfield index, 3)) (k : Z p l e R s m args below meth c nL D N ad A cells slots Q (pc + 3) lv st (va_up g a (.inr (ci, fs.set q v)))) : Z p l e R s m args below meth c nL D N ad A cells slots Q pc lv (v :: .ref (ad a) :: st) g := fun H locs ls hl hP hS =>
  va_putF (zx_e X) (zx_b X) (zx_w X) hin ty0 hty hnm (zx_o X) (zx_K X).1 hP (z_w_D (zx_I X) (zx_A X)) hS a (by rw [z_w_get hN, he]) hc q hq (zx_w X _ hlink) (fun _ h => by rw [← hsame]; exact h) hfin hnm0 hown hdd hn hfit hl9 hd (fun H1 locs1 hP1 _ hS1 => k H1 locs1 ls hl (by rw [z_w_set] at hP1; exact hP1) hS1)
theorem z_astq (X : zCx p s m args meth c cc nL own ret D tys N ad A) (a t0 b ci : Nat) (hN : a < N) (hb : b < N) {cO : ClassId} {r : vw_C} {n : Nat} {f : Nat → Option Nat} {vs : List Value} {i : Int} (he : g a = .inl (cO, n, .inr (.inr (.inr (.inr f))))) (ht : tys[t0]? = some (cO, .object r.1)) (hv : g b = .inr (ci, vs)) (hc : vwCl[ci]? = some r) (h0 : 0 ≤ i) (h1 : i < n) (hn : n < 2147483648) (hd : decode cc pc = .ok (.aastore, 1)) (k : Z p l e R s m args below meth c nL D N ad A cells slots Q (pc + 1) lv st (va_up g a (.inl (cO, n, .inr (.inr (.inr (.inr (va_up f i.toNat (some (ad b)))))))))) : Z p l e R s m args below meth c nL D N ad A cells slots Q pc lv (.ref (ad b) :: .int (iZ i) :: .ref (ad a) :: st) g := fun H locs ls hl hP hS =>
  va_astq (zx_e X) (zx_b X) (zx_K X).1 hP (z_w_D (zx_I X) (zx_A X)) hS a t0 b ci (by rw [z_w_get hN, he]) ht (by rw [z_w_get hb, hv]) hc (iZ_in h0 h1 hn) hd (fun H1 locs1 hP1 _ hS1 => k H1 locs1 ls hl (by rw [z_w_set, iZ_clamp h0 (by omega)] at hP1; exact hP1) hS1)
theorem z_objinit (X : zCx p s m args meth c cc nL own ret D tys N ad A) {idx a : Nat} (hlink : Cond.methodLink own idx Lib.objectInit ∈ wsG) (hR : 1 ≤ R.frames ∧ (st.map fun v => v.category).sum + 12 ≤ R.locals) (hd : decode cc pc = .ok (.invokespecial idx, 3)) (k : Z p l e R s m args below meth c nL D N ad A cells slots Q (pc + 3) lv st g) : Z p l e R s m args below meth c nL D N ad A cells slots Q pc lv (.ref a :: st) g := fun H locs ls hl hP hS =>
  W.objInit (zx_e X) (zx_b X) (zx_o X) (zx_w X _ hlink) (zx_w X _ zw22) (zx_w X _ zw23) rfl (by rw [zx_m X]; exact hl.1) rfl hd hR.1 (by have := hR.2; show 2 * 0 + _ + 12 ≤ _; omega) (k H locs ls hl hP hS)
end ZGR
/-! a constructor's contract: of the cell q it makes a world of M -/
def zAq (q sz : Nat) : Nat → Prop := fun x => x = q ∨ sz ≤ x
def zMc {S : Type} (l : Launch) (y : MethodName) (cc : ByteArray) (maxL lev k n : Nat) (D : va_G) (tys : List (ClassId × FieldType)) (blank : va_E) (M : Nat) (gch : S → (Nat → Nat) → Nat → va_E) (post : S → Prop) : Prop :=
  ∀ sz q, Met l y (zWs y cc maxL none) (zRc lev k n) (va_Pc [.ref q] (fun U => U.heap.size = sz ∧ (zKs D tys U ∧ va_AO RX1 U) ∧ va_P D vwCl [(q, blank)] U.heap)) (va_Qv (fun u : (Nat → Nat) × S => u.1 0 = q ∧ zInj M u.1 ∧ (∀ j, 0 < j → j < M → sz ≤ u.1 j) ∧ post u.2) (fun u t => va_P D vwCl (z_w M u.1 (gch u.2 u.1)) t.heap) (zAq q sz)) k n (zAq q sz)
section ZCN
variable {l : Launch} {y : MethodName} {cc : ByteArray} {maxL lev k n : Nat} {D : va_G} {tys : List (ClassId × FieldType)} {blank : va_E} {M : Nat}
theorem z_goc {S : Type} {gch : S → (Nat → Nat) → Nat → va_E} {post : S → Prop} (hm : zMe y cc maxL none 0) (hn : y.name = "<init>") (hl : 1 ≤ maxL)
    (body : ∀ (p : Program) (e : Env) (s : State) (m : MethodId) (args : Array Value) (below : List Frame) (meth : Method) (c : Code) (A : Nat → Prop) (q : Nat) (Q : State → Prop), zCx p s m args meth c cc maxL y.cls none D tys 1 (fun _ => q) A → meth.name = "<init>" → va_AO RX1 s →
      (∀ (u : S) {cells slots pc : Nat} {lv : List (Nat × Value)} {ad : Nat → Nat} {g : Nat → va_E}, cells ≤ k → slots ≤ n → zCx p s m args meth c cc maxL y.cls none D tys M ad A → ad 0 = q → (∀ j, j < M → g j = gch u ad j) → post u → decode cc pc = .ok (.return_, 1) → Z p l e (zRc lev k n) s m args below meth c maxL D M ad A cells slots Q pc lv [] g) →
      Z p l e (zRc lev k n) s m args below meth c maxL D 1 (fun _ => q) A 0 0 Q 0 [(0, .ref q)] [] (fun _ => blank)) :
    zMc l y cc maxL lev k n D tys blank M gch post := by
  intro sz q
  refine Met.ofW (cc := cc) (maxL := maxL) (ret := none) hm.2.2.2.2 rfl ?_
  intro p e s m args below meth c s₁ B hml hv
  obtain ⟨rfl, hsz, ⟨hK, hO⟩, hP⟩ := hv
  subst hsz
  have hts : ∀ w ∈ zWs y cc maxL none, w.before ([Value.ref q]).toArray s = true := atoms_spec (ws := zWs y cc maxL none) B.pre
  have hin : meth.name = "<init>" := (name_of_methodNamed B.named B.method).1.trans hn
  have X : zCx p s m ([Value.ref q]).toArray meth c cc maxL y.cls none D tys 1 (fun _ => q) (zAq q s.heap.size) := ⟨B.exec, B.bytes, hml, findClass_of_methodNamed B.named, fun w hw => hts w (List.mem_cons_of_mem _ hw), hK, fun i j hi hj _ => by omega, fun k hk => Or.inl rfl, fun x hx => Or.inr hx, B.returns, B.notSynchronized⟩
  rw [lg_entry_eq]
  refine body p e s m _ below meth c (zAq q s.heap.size) q _ X hin hO ?_ _ _ _ (lv_entry [.ref q] hl) hP va_S.rf
  intro u cells slots pc lv ad g h1 h2 X9 e0 hg hp hd H locs ls hl9 hP9 hS9
  refine W.widen h1 h2 (W.vret (zx_e X9) (zx_b X9) (zx_r X9) (fun t ht hW => ⟨⟨(ad, u), rfl, ⟨e0, zx_I X9, fun j j0 j1 => ?_, hp⟩, ?_⟩, hS9.F ht⟩) hS9.2.2 hd (zx_l X9))
  · rcases zx_A X9 j j1 with q1 | q1
    · exact absurd (zx_I X9 j 0 j1 (by omega) (by rw [e0]; exact q1)) (by omega)
    · exact q1
  · show va_P D vwCl (z_w M ad (gch u ad)) t.heap
    rw [ht]
    exact zP_cong hP9 (fun _ _ => rfl) (fun k hk => (hg k hk).symm)
end ZCN
section ZCC
variable {p : Program} {l : Launch} {e : Env} {R : Room} {s : State} {m : MethodId} {args : Array Value} {below : List Frame} {meth : Method} {c : Code} {cc : ByteArray} {nL : Nat} {own : String} {ret : Option FieldType} {D : va_G} {tys : List (ClassId × FieldType)} {N : Nat} {ad : Nat → Nat} {A : Nat → Prop} {cells slots : Nat} {Q : State → Prop} {pc : Nat} {lv : List (Nat × Value)} {st : List Value} {g : Nat → va_E}
theorem zBlindC {S0 : Type} {D9 : va_G} {tys9 : List (ClassId × FieldType)} {blank : va_E} {sz q : Nat} {av : List Value} : FrameBlind (va_Pc av (fun U => U.heap.size = sz ∧ (zKs D9 tys9 U ∧ va_AO RX1 U) ∧ va_P D9 vwCl [(q, blank)] U.heap)) := by
  intro a U g9 mk ⟨h1, h2, h3, h4⟩
  exact ⟨h1, h2, ⟨zKs.same (u := U) (U := U.calling g9 mk a) rfl h3.1, va_AO.moved (u := U) (U := U.calling g9 mk a) (Vm.Alike.refl U.vm) h3.2⟩, h4⟩
def zFitC (R : Room) (cells slots maxL lev k n : Nat) : Prop := lev + 1 ≤ R.frames ∧ 8 + (maxL + 11) + 40 * lev ≤ R.locals ∧ cells + k ≤ R.cells ∧ slots + n ≤ R.slots
theorem z_joinC {q M : Nat} (X : zCx p s m args meth c cc nL own ret D tys (N + 1) (zg N ad (fun _ => q)) A) {α : Nat → Nat} {H H1 : Heap} {locs : List Loc} {g9 : Nat → va_E} {e9 : va_E} (hP : zP D (N + 1) (zg N ad (fun _ => q)) (zg N g (fun _ => e9)) H) (hS : va_S A s.heap H locs) (h0 : α 0 = q) (hI : zInj M α) (hA : ∀ j, 0 < j → j < M → H.size ≤ α j) (hP1 : va_P D vwCl (z_w M α g9) H1) (hk1 : ∀ x : Nat, x < H.size → ¬ zAq q H.size x → H1[x]? = H[x]?) : zP D (N + M) (zg N ad α) (zg N g g9) H1 ∧ zCx p s m args meth c cc nL own ret D tys (N + M) (zg N ad α) A := by
  have hq : zg N ad (fun _ => q) N = q := by rw [zg_r (by omega)]
  have hlt : ∀ k, k < N → ad k < H.size ∧ ad k ≠ q := fun k hk => by
    have h1 := vx_lt hP (z_w_get (show k < N + 1 by omega))
    have h2 : zg N ad (fun _ => q) k = ad k := zg_l hk
    refine ⟨by rw [← h2]; exact h1, fun e1 => ?_⟩
    have := zx_I X k N (by omega) (by omega) (by rw [h2, hq]; exact e1)
    omega
  refine ⟨zP_at.mpr (fun k hk => ?_), zx_re X (fun i j hi hj e1 => ?_) (fun k hk => ?_)⟩
  · by_cases h : k < N
    · rw [zg_l h, zg_l h]
      have h1 := zP_at.mp hP k (by omega)
      rw [zg_l h, zg_l h] at h1
      exact h1.kept (hk1 _ (hlt k h).1 (fun q9 => q9.elim (hlt k h).2 (fun q9 => by have := (hlt k h).1; omega)))
    · rw [zg_r (by omega), zg_r (by omega)]
      exact zP_at.mp hP1 _ (by omega)
  · by_cases h1 : i < N
    · by_cases h2 : j < N
      · rw [zg_l h1, zg_l h2] at e1
        exact zx_I X i j (by omega) (by omega) (by rw [zg_l h1, zg_l h2]; exact e1)
      · rw [zg_l h1, zg_r (by omega)] at e1
        obtain ⟨g1, g2⟩ := hlt i h1
        by_cases h3 : j = N
        · rw [h3, Nat.sub_self, h0] at e1; exact absurd e1 g2
        · have := hA (j - N) (by omega) (by omega); omega
    · by_cases h2 : j < N
      · rw [zg_r (by omega), zg_l h2] at e1
        obtain ⟨g1, g2⟩ := hlt j h2
        by_cases h3 : i = N
        · rw [h3, Nat.sub_self, h0] at e1; exact absurd e1.symm g2
        · have := hA (i - N) (by omega) (by omega); omega
      · rw [zg_r (by omega), zg_r (by omega)] at e1
        have := hI (i - N) (j - N) (by omega) (by omega) e1
        omega
  · by_cases h : k < N
    · rw [zg_l h]
      have := zx_A X k (by omega)
      rwa [zg_l h] at this
    · rw [zg_r (by omega)]
      by_cases h3 : k = N
      · rw [h3, Nat.sub_self, h0, ← hq]; exact zx_A X N (by omega)
      · exact zx_F X _ (Nat.le_trans hS.1 (hA _ (by omega) (by omega)))
theorem z_callC {S : Type} {gch : S → (Nat → Nat) → Nat → va_E} {post : S → Prop} {q M : Nat} {blank : va_E} (X : zCx p s m args meth c cc nL own ret D tys (N + 1) (zg N ad (fun _ => q)) A) {y : MethodName} {cc9 : ByteArray} {maxL9 lev9 k9 n9 index : Nat} (hO : va_AO RX1 s) (hm : zMe y cc9 maxL9 none 0) (hyn : y.name = "<init>") (hinst : Cond.instanceMethod y ∈ wsG) (hlink : Cond.methodLink own index y ∈ wsG) (hfit : zFitC R cells slots maxL9 lev9 k9 n9) (hM : zMc l y cc9 maxL9 lev9 k9 n9 D tys blank M gch post) (hW : (st.map fun v => v.category).sum ≤ 8) (hd : decode cc pc = .ok (.invokespecial index, 3))
    (k : ∀ (u : S) (α : Nat → Nat), α 0 = q → post u → zCx p s m args meth c cc nL own ret D tys (N + M) (zg N ad α) A → Z p l e R s m args below meth c nL D (N + M) (zg N ad α) A (cells + k9) (slots + n9) Q (pc + 3) lv st (zg N g (gch u α))) : Z p l e R s m args below meth c nL D (N + 1) (zg N ad (fun _ => q)) A cells slots Q pc lv (.ref q :: st) (zg N g (fun _ => blank)) := by
  intro H locs ls hl hP hS
  have hK := zx_K X
  have hq : zg N ad (fun _ => q) N = q := by rw [zg_r (by omega)]
  have hf : ∀ x, zAq q H.size x → A x := fun x hx => hx.elim (fun h => by rw [h, ← hq]; exact zx_A X N (by omega)) (fun h => zx_F X x (Nat.le_trans hS.1 h))
  have hPc : va_P D vwCl [(q, blank)] H := by
    have h1 := zP_at.mp hP N (by omega)
    rw [hq, zg_r (by omega)] at h1
    intro k9 q9 h9
    have hz : k9 < 1 := (List.getElem?_eq_some_iff.mp h9).1
    rw [show k9 = 0 by omega] at h9
    cases h9
    exact h1
  refine va_callv (va_runI (Ts := wsG) (As := []) (rest := st) ⟨zx_e X, zx_b X, zx_m X, zx_o X, zx_w X⟩ (hM H.size q) ⟨⟨rfl, rfl, hfit.1, hfit.2.1, zPay hm.1 (zx_w X), List.mem_cons_self, zx_w X _ hm.1, zx_w X _ hm.2.1, hm.2.2.1, fun sig h => (by have h2 := hm.2.2.2.1; rw [h] at h2; exact (Option.some.inj h2).symm), zx_w X _ hlink⟩, hyn, zx_w X _ hinst⟩ ⟨zBlindC (S0 := Unit), fun U hU hW => ⟨rfl, by rw [hU], ⟨hK.warm hW, va_AO.moved hW.alike hO⟩, by rw [hU]; exact hPc⟩⟩ rfl rfl hl.1 rfl (lv_room hW) hd ⟨hfit.2.2.1, hfit.2.2.2⟩) hS (fun x _ h => hf x h) hf (fun u t H1 locs1 ht hvm hw hB hz1 hk1 hS1 => ?_)
  obtain ⟨α, u⟩ := u
  obtain ⟨w1, w2, w3, w4⟩ := hw
  have hB9 : va_P D vwCl (z_w M α (gch u α)) t.heap := hB
  rw [ht] at hB9
  obtain ⟨hP9, X9⟩ := z_joinC X hP hS w1 w2 w3 hB9 hk1
  exact k u α w1 w4 X9 H1 locs1 ls hl hP9 hS1
theorem z_callCN {S : Type} {gch : S → (Nat → Nat) → Nat → va_E} {post : S → Prop} {q M : Nat} {blank : va_E} (X : zCx p s m args meth c cc nL own ret D tys (N + 1) (zg N ad (fun _ => q)) A) {y : MethodName} {cc9 : ByteArray} {maxL9 lev9 k9 n9 index : Nat} {host : String} (hO : va_AO RX1 s) (hm : zMe y cc9 maxL9 none 0) (hyn : y.name = "<init>") (hinst : Cond.instanceMethod y ∈ wsG) (hlink : Cond.methodLinkNest own index y host ∈ zNest) (hfit : zFitC R cells slots maxL9 lev9 k9 n9) (hM : zMc l y cc9 maxL9 lev9 k9 n9 D tys blank M gch post) (hW : (st.map fun v => v.category).sum ≤ 8) (hd : decode cc pc = .ok (.invokespecial index, 3))
    (k : ∀ (u : S) (α : Nat → Nat), α 0 = q → post u → zCx p s m args meth c cc nL own ret D tys (N + M) (zg N ad α) A → Z p l e R s m args below meth c nL D (N + M) (zg N ad α) A (cells + k9) (slots + n9) Q (pc + 3) lv st (zg N g (gch u α))) : Z p l e R s m args below meth c nL D (N + 1) (zg N ad (fun _ => q)) A cells slots Q pc lv (.ref q :: st) (zg N g (fun _ => blank)) := by
  intro H locs ls hl hP hS
  have hK := zx_K X
  have hq : zg N ad (fun _ => q) N = q := by rw [zg_r (by omega)]
  have hf : ∀ x, zAq q H.size x → A x := fun x hx => hx.elim (fun h => by rw [h, ← hq]; exact zx_A X N (by omega)) (fun h => zx_F X x (Nat.le_trans hS.1 h))
  have hPc : va_P D vwCl [(q, blank)] H := by
    have h1 := zP_at.mp hP N (by omega)
    rw [hq, zg_r (by omega)] at h1
    intro k9 q9 h9
    have hz : k9 < 1 := (List.getElem?_eq_some_iff.mp h9).1
    rw [show k9 = 0 by omega] at h9
    cases h9
    exact h1
  refine va_callv (va_runIN (Ts := wsG) (As := []) (rest := st) ⟨zx_e X, zx_b X, zx_m X, zx_o X, zx_w X⟩ (hM H.size q) ⟨⟨⟨rfl, rfl, hfit.1, hfit.2.1, zPay hm.1 (zx_w X), List.mem_cons_self⟩, zx_w X _ hm.1, zx_w X _ hm.2.1, hm.2.2.1, fun sig h => (by have h2 := hm.2.2.2.1; rw [h] at h2; exact (Option.some.inj h2).symm), zx_n X hlink rfl⟩, hyn, zx_w X _ hinst⟩ ⟨zBlindC (S0 := Unit), fun U hU hW => ⟨rfl, by rw [hU], ⟨hK.warm hW, va_AO.moved hW.alike hO⟩, by rw [hU]; exact hPc⟩⟩ rfl rfl hl.1 rfl (lv_room hW) hd ⟨hfit.2.2.1, hfit.2.2.2⟩) hS (fun x _ h => hf x h) hf (fun u t H1 locs1 ht hvm hw hB hz1 hk1 hS1 => ?_)
  obtain ⟨α, u⟩ := u
  obtain ⟨w1, w2, w3, w4⟩ := hw
  have hB9 : va_P D vwCl (z_w M α (gch u α)) t.heap := hB
  rw [ht] at hB9
  obtain ⟨hP9, X9⟩ := z_joinC X hP hS w1 w2 w3 hB9 hk1
  exact k u α w1 w4 X9 H1 locs1 ls hl hP9 hS1
end ZCC
