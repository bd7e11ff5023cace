/-! constructors: lines, polynomials, the reference -/
section ZK
variable {p : Program} {l : Launch} {e : Env} {R : Room} {s : State} {m : MethodId} {args : Array Value} {below : List Frame} {meth : Method} {c : Code} {cc : ByteArray} {nL : Nat} {own : String} {ret : Option FieldType} {D : va_G} {tys : List (ClassId × FieldType)} {N : Nat} {ad : Nat → Nat} {A : Nat → Prop} {cells slots : Nat} {Q : State → Prop} {pc : Nat} {lv : List (Nat × Value)} {st : List Value} {g : Nat → va_E}
/-- an array made for a field -/
theorem z_mkI (X : zCx p s m args meth c cc nL own ret D tys N ad A) (hnm0 : meth.name = "<init>") {C : String} {T : u_T} {NF ci : Nat} (hin : ∀ w ∈ u_ws C T NF, w ∈ wsG) (ty0 : Nat → FieldType) (hty : ∀ k, k < NF → parseFieldDescriptor (T k).2.2.1 = some (ty0 k)) (hnm : ∀ a, a < NF → ∀ b, b < NF → a ≠ b → (T a).2.1 ≠ (T b).2.1) (hc : vwCl[ci]? = some (C, T, NF)) {iput : Nat} {ref : String} {fs : List Value} (qf : Nat) (hq : qf < NF) (hlinkF : Cond.fieldLink own iput ref (T qf).2.1 (T qf).2.2.1 ∈ wsG) (hsame : (T qf).1 = ref) (hfin : (T qf).2.2.2 = true) (hown : (T qf).1 = own) {ty : FieldType} (hdd : parseFieldDescriptor (T qf).2.2.1 = some ty) (hn9 : ∀ a : Nat, narrow ty (.ref a) = .ref a) (hfit9 : ∀ a : Nat, fits ty (.ref a) = true) (hN : 0 < N) (h0 : g 0 = .inr (ci, fs)) (hl9 : qf < fs.length) {q : Nat} (hq0 : ad 0 = q) (t0 : Nat) {cI : ClassId} (ht : tys[t0]? = some (cI, .int)) {n : Int} {n9 : Nat} (b0 : 0 ≤ n) (b1 : n < 2147483648) (bn : n.toNat = n9) (hb : n9 * 4 ≤ 536870912) (hcells : cells + 1 ≤ R.cells) (hslots : slots + n9 ≤ R.slots) (d0 : decode cc pc = .ok (.newarray .int, 2)) (d2 : decode cc (pc + 2) = .ok (.putfield iput, 3))
    (k : ∀ ad9 : Nat → Nat, (∀ i, i < N → ad9 i = ad i) → zCx p s m args meth c cc nL own ret D tys (N + 1) ad9 A → Z p l e R s m args below meth c nL D (N + 1) ad9 A (cells + 1) (slots + n9) Q (pc + 5) lv [] (va_up (zg N g (fun _ => .inl (cI, n9, .inl (fun _ => 0)))) 0 (.inr (ci, fs.set qf (.ref (ad9 N)))))) : Z p l e R s m args below meth c nL D N ad A cells slots Q pc lv [.int (iZ n), .ref q] g := by
  refine z_newI X t0 ht b0 b1 bn hb hcells hslots d0 (fun q1 X1 => ?_)
  have e0 : zg N ad (fun _ => q1) 0 = q := by rw [zg_l hN, hq0]
  have eN : zg N ad (fun _ => q1) N = q1 := zg_r (Nat.le_refl N)
  refine z_stq (st9 := [.ref q1, .ref (zg N ad (fun _ => q1) 0)]) (by rw [e0]) ?_
  refine z_putF X1 hnm0 hin ty0 hty hnm 0 (by omega) (by rw [zg_l hN, h0]) hc qf hq hlinkF hsame hfin hown hdd (hn9 q1) (hfit9 q1) hl9 d2 ?_
  have := k (zg N ad (fun _ => q1)) (fun i hi => zg_l hi) X1
  rwa [eN] at this
/-- an object made for a field -/
theorem z_mk (X : zCx p s m args meth c cc nL own ret D tys N ad A) (hnm0 : meth.name = "<init>") (hO : va_AO RX1 s) {C : String} {T : u_T} {NF ci : Nat} (hin : ∀ w ∈ u_ws C T NF, w ∈ wsG) (ty0 : Nat → FieldType) (hty : ∀ k, k < NF → parseFieldDescriptor (T k).2.2.1 = some (ty0 k)) (hnm : ∀ a, a < NF → ∀ b, b < NF → a ≠ b → (T a).2.1 ≠ (T b).2.1) (hc : vwCl[ci]? = some (C, T, NF)) {iput : Nat} {ref : String} {fs : List Value} (qf : Nat) (hq : qf < NF) (hlinkF : Cond.fieldLink own iput ref (T qf).2.1 (T qf).2.2.1 ∈ wsG) (hsame : (T qf).1 = ref) (hfin : (T qf).2.2.2 = true) (hown : (T qf).1 = own) {ty : FieldType} (hdd : parseFieldDescriptor (T qf).2.2.1 = some ty) (hn9 : ∀ a : Nat, narrow ty (.ref a) = .ref a) (hfit9 : ∀ a : Nat, fits ty (.ref a) = true) (hN : 0 < N) (h0 : g 0 = .inr (ci, fs)) (hl9 : qf < fs.length) {q : Nat} (hq0 : ad 0 = q) {C9 : String} {T9 : u_T} {NF9 ci9 inew : Nat} {fs9 : List Value} (hin9 : ∀ w ∈ u_ws C9 T9 NF9, w ∈ wsG) (ty9 : Nat → FieldType) (hty9 : ∀ k, k < NF9 → parseFieldDescriptor (T9 k).2.2.1 = some (ty9 k)) (hc9 : vwCl[ci9]? = some (C9, T9, NF9)) (hfs9 : ∀ j, j < NF9 → defaultValue (ty9 j) = vp_V fs9 j) (hcl : Cond.classLink own inew C9 ∈ wsG) (hinst : Cond.instantiable C9 NF9 ∈ wsG) (hini : Cond.initialized C9 ∈ wsG) {S : Type} {gch : S → (Nat → Nat) → Nat → va_E} {post : S → Prop} {M : Nat} (hM1 : 0 < M) {y : MethodName} {cc9 : ByteArray} {maxL9 lev9 k9 n9 iinv : Nat} (hm : zMe y cc9 maxL9 none 0) (hyn : y.name = "<init>") (hinstm : Cond.instanceMethod y ∈ wsG) (hlink : Cond.methodLink own iinv y ∈ wsG) (hfit : zFitC R (cells + 1) (slots + NF9) maxL9 lev9 k9 n9) (hM : zMc l y cc9 maxL9 lev9 k9 n9 D tys (.inr (ci9, fs9)) M gch post)
    (d0 : decode cc pc = .ok (.new inew, 3)) (d3 : decode cc (pc + 3) = .ok (.dup, 1)) (d4 : decode cc (pc + 4) = .ok (.invokespecial iinv, 3)) (d7 : decode cc (pc + 7) = .ok (.putfield iput, 3))
    (k : ∀ (u : S) (ad9 : Nat → Nat), (∀ i, i < N → ad9 i = ad i) → post u → zCx p s m args meth c cc nL own ret D tys (N + M) ad9 A → Z p l e R s m args below meth c nL D (N + M) ad9 A (cells + 1 + k9) (slots + NF9 + n9) Q (pc + 10) lv [] (va_up (zg N g (gch u (fun t => ad9 (N + t)))) 0 (.inr (ci, fs.set qf (.ref (ad9 N)))))) : Z p l e R s m args below meth c nL D N ad A cells slots Q pc lv [.ref q] g := by
  refine z_new X hin9 ty9 hty9 hc9 hfs9 hcl hinst hini (Nat.le_trans (Nat.le_add_right _ _) hfit.2.2.1) (Nat.le_trans (Nat.le_add_right _ _) hfit.2.2.2) d0 (fun q1 X1 => ?_)
  refine z_dup X1 rfl d3 ?_
  refine z_callC X1 hO hm hyn hinstm hlink hfit hM (show 1 + (1 + 0) ≤ 8 by omega) d4 (fun u α hα hp X2 => ?_)
  have e0 : zg N ad α 0 = q := by rw [zg_l hN, hq0]
  have eN : zg N ad α N = q1 := by rw [zg_r (Nat.le_refl N), Nat.sub_self, hα]
  refine z_stq (st9 := [.ref q1, .ref (zg N ad α 0)]) (by rw [e0]) ?_
  refine z_putF X2 hnm0 hin ty0 hty hnm 0 (by omega) (by rw [zg_l hN, h0]) hc qf hq hlinkF hsame hfin hown hdd (hn9 q1) (hfit9 q1) hl9 d7 ?_
  have := k u (zg N ad α) (fun i hi => zg_l hi) hp X2
  rw [eN, show (fun t => zg N ad α (N + t)) = α from funext (fun t => by rw [zg_r (by omega), Nat.add_sub_cancel_left])] at this
  exact this
/-- an object made for a field -/
theorem z_mkN (X : zCx p s m args meth c cc nL own ret D tys N ad A) (hnm0 : meth.name = "<init>") (hO : va_AO RX1 s) {C : String} {T : u_T} {NF ci : Nat} (hin : ∀ w ∈ u_ws C T NF, w ∈ wsG) (ty0 : Nat → FieldType) (hty : ∀ k, k < NF → parseFieldDescriptor (T k).2.2.1 = some (ty0 k)) (hnm : ∀ a, a < NF → ∀ b, b < NF → a ≠ b → (T a).2.1 ≠ (T b).2.1) (hc : vwCl[ci]? = some (C, T, NF)) {iput : Nat} {ref : String} {fs : List Value} (qf : Nat) (hq : qf < NF) (hlinkF : Cond.fieldLink own iput ref (T qf).2.1 (T qf).2.2.1 ∈ wsG) (hsame : (T qf).1 = ref) (hfin : (T qf).2.2.2 = true) (hown : (T qf).1 = own) {ty : FieldType} (hdd : parseFieldDescriptor (T qf).2.2.1 = some ty) (hn9 : ∀ a : Nat, narrow ty (.ref a) = .ref a) (hfit9 : ∀ a : Nat, fits ty (.ref a) = true) (hN : 0 < N) (h0 : g 0 = .inr (ci, fs)) (hl9 : qf < fs.length) {q : Nat} (hq0 : ad 0 = q) {C9 : String} {T9 : u_T} {NF9 ci9 inew : Nat} {fs9 : List Value} (hin9 : ∀ w ∈ u_ws C9 T9 NF9, w ∈ wsG) (ty9 : Nat → FieldType) (hty9 : ∀ k, k < NF9 → parseFieldDescriptor (T9 k).2.2.1 = some (ty9 k)) (hc9 : vwCl[ci9]? = some (C9, T9, NF9)) (hfs9 : ∀ j, j < NF9 → defaultValue (ty9 j) = vp_V fs9 j) (hcl : Cond.classLink own inew C9 ∈ wsG) (hinst : Cond.instantiable C9 NF9 ∈ wsG) (hini : Cond.initialized C9 ∈ wsG) {S : Type} {gch : S → (Nat → Nat) → Nat → va_E} {post : S → Prop} {M : Nat} (hM1 : 0 < M) {y : MethodName} {cc9 : ByteArray} {maxL9 lev9 k9 n9 iinv : Nat} {host : String} (hm : zMe y cc9 maxL9 none 0) (hyn : y.name = "<init>") (hinstm : Cond.instanceMethod y ∈ wsG) (hlink : Cond.methodLinkNest own iinv y host ∈ zNest) (hfit : zFitC R (cells + 1) (slots + NF9) maxL9 lev9 k9 n9) (hM : zMc l y cc9 maxL9 lev9 k9 n9 D tys (.inr (ci9, fs9)) M gch post)
    (d0 : decode cc pc = .ok (.new inew, 3)) (d3 : decode cc (pc + 3) = .ok (.dup, 1)) (d4 : decode cc (pc + 4) = .ok (.invokespecial iinv, 3)) (d7 : decode cc (pc + 7) = .ok (.putfield iput, 3))
    (k : ∀ (u : S) (ad9 : Nat → Nat), (∀ i, i < N → ad9 i = ad i) → post u → zCx p s m args meth c cc nL own ret D tys (N + M) ad9 A → Z p l e R s m args below meth c nL D (N + M) ad9 A (cells + 1 + k9) (slots + NF9 + n9) Q (pc + 10) lv [] (va_up (zg N g (gch u (fun t => ad9 (N + t)))) 0 (.inr (ci, fs.set qf (.ref (ad9 N)))))) : Z p l e R s m args below meth c nL D N ad A cells slots Q pc lv [.ref q] g := by
  refine z_new X hin9 ty9 hty9 hc9 hfs9 hcl hinst hini (Nat.le_trans (Nat.le_add_right _ _) hfit.2.2.1) (Nat.le_trans (Nat.le_add_right _ _) hfit.2.2.2) d0 (fun q1 X1 => ?_)
  refine z_dup X1 rfl d3 ?_
  refine z_callCN X1 hO hm hyn hinstm hlink hfit hM (show 1 + (1 + 0) ≤ 8 by omega) d4 (fun u α hα hp X2 => ?_)
  have e0 : zg N ad α 0 = q := by rw [zg_l hN, hq0]
  have eN : zg N ad α N = q1 := by rw [zg_r (Nat.le_refl N), Nat.sub_self, hα]
  refine z_stq (st9 := [.ref q1, .ref (zg N ad α 0)]) (by rw [e0]) ?_
  refine z_putF X2 hnm0 hin ty0 hty hnm 0 (by omega) (by rw [zg_l hN, h0]) hc qf hq hlinkF hsame hfin hown hdd (hn9 q1) (hfit9 q1) hl9 d7 ?_
  have := k u (zg N ad α) (fun i hi => zg_l hi) hp X2
  rw [eN, show (fun t => zg N ad α (N + t)) = α from funext (fun t => by rw [zg_r (by omega), Nat.add_sub_cancel_left])] at this
  exact this
end ZK
/-! what they make -/
def bL (cI : ClassId) (ad : Nat → Nat) (j : Nat) : va_E := if j = 0 then .inr (3, [.ref (ad 1), .int (iZ (-1))]) else .inl (cI, 52, .inl (fun _ => 0))
def bQ (cI cO : ClassId) (n : Nat) (ad : Nat → Nat) (j : Nat) : va_E := if j = 0 then .inr (4, [.ref (ad 1)]) else if j = 1 then .inl (cO, 13, .inr (.inr (.inr (.inr (fun t => if t < n then some (ad (2 * t + 2)) else none))))) else bL cI (fun t => ad (2 * ((j - 2) / 2) + 2 + t)) ((j - 2) % 2)
section
variable {cI cO : ClassId} {a a9 : Nat → Nat} {n i j r N : Nat}
theorem bL_cong (h : ∀ t, t < 2 → a9 t = a t) : bL cI a9 j = bL cI a j := by
  unfold bL
  rw [h 1 (by omega)]
theorem bQ_0 : bQ cI cO n a 0 = .inr (4, [.ref (a 1)]) := if_pos rfl
theorem bQ_1 : bQ cI cO n a 1 = .inl (cO, 13, .inr (.inr (.inr (.inr (fun t => if t < n then some (a (2 * t + 2)) else none))))) := by rw [bQ, if_neg (by omega), if_pos rfl]
theorem bQ_l (hr : r < 2) : bQ cI cO n a (2 * i + 2 + r) = bL cI (fun t => a (2 * i + 2 + t)) r := by
  rw [bQ, if_neg (by omega), if_neg (by omega), show (2 * i + 2 + r - 2) / 2 = i by omega, show (2 * i + 2 + r - 2) % 2 = r by omega]
theorem bQ_cong (h : ∀ t, t < 2 * n + 2 → a9 t = a t) (hj : j < 2 * n + 2) : bQ cI cO n a9 j = bQ cI cO n a j := by
  by_cases h0 : j = 0
  · rw [h0, bQ_0, bQ_0, h 1 (by omega)]
  by_cases h1 : j = 1
  · rw [h1, bQ_1, bQ_1]
    congr 7
    funext t
    by_cases ht : t < n
    · rw [if_pos ht, if_pos ht, h _ (by omega)]
    · rw [if_neg ht, if_neg ht]
  · rw [show j = 2 * ((j - 2) / 2) + 2 + (j - 2) % 2 by omega, bQ_l (by omega), bQ_l (by omega)]
    exact bL_cong (fun t ht => h _ (by omega))
end
theorem c_X1_init (l : Launch) {D : va_G} {tys : List (ClassId × FieldType)} {cI : ClassId} (hI : tys[0]? = some (cI, .int)) : zMc l yX1_init cX1_init 1 1 1 52 D tys (.inr (3, [.null, .int 0])) 2 (fun (_ : Unit) ad => bL cI ad) (fun _ => True) := by
  refine z_goc zm_X1_init rfl (by decide) ?_
  intro p e s m args below meth c A q Q X hnm hO fin
  refine z_aload_n X 0 rfl rfl dX1_init_0 ?_
  refine z_objinit X zw29 (by decide) dX1_init_1 ?_
  refine z_aload_n X 0 rfl rfl dX1_init_4 ?_
  refine z_bipush X (n := 52) (by decide) dX1_init_5 ?_
  refine z_newI X 0 hI (n := 52) (n9 := 52) (by omega) (by omega) rfl (by decide) (by decide) (by decide) dX1_init_7 (fun q1 X1 => ?_)
  have e0 : zg 1 (fun _ => q) (fun _ => q1) 0 = q := zg_l (by omega)
  have e1 : zg 1 (fun _ => q) (fun _ => q1) 1 = q1 := zg_r (by omega)
  generalize zg 1 (fun _ => q) (fun _ => q1) = ad at X1 e0 e1 ⊢
  refine z_stq (st9 := [.ref (ad 1), .ref (ad 0)]) (by rw [e0, e1]) ?_
  refine z_put X1 zinX1 tyX1 tyX1_ok nmX1 0 (by omega) (zg_l (by omega)) (ci := 3) rfl 0 (by decide) (ref := "TowerFields$Line") zw30 rfl rfl (ty := .array .int) (by decide +kernel) rfl rfl (Nat.le_of_ble_eq_true rfl) dX1_init_9 ?_
  refine z_aload_n X1 0 rfl rfl dX1_init_12 ?_
  refine z_iconst X1 (n := -1) dX1_init_13 ?_
  refine z_stq (st9 := [.int (iZ (-1)), .ref (ad 0)]) (by rw [e0]) ?_
  refine z_put X1 zinX1 tyX1 tyX1_ok nmX1 0 (by omega) rfl (ci := 3) rfl 1 (by decide) (ref := "TowerFields$Line") zw31 rfl rfl (ty := .int) (by decide +kernel) rfl rfl (Nat.le_of_ble_eq_true rfl) dX1_init_14 ?_
  refine fin () (by decide) (by decide) X1 e0 (fun j hj => ?_) trivial dX1_init_17
  rcases (by omega : j = 0 ∨ j = 1) with rfl | rfl
  · rfl
  · rfl
theorem c_X2_init (l : Launch) {D : va_G} {tys : List (ClassId × FieldType)} {cI cO : ClassId} (hI : tys[0]? = some (cI, .int)) (hQ : tys[1]? = some (cO, .object "TowerFields$Line")) : zMc l yX2_init cX2_init 2 2 27 715 D tys (.inr (4, [.null])) 28 (fun (_ : Unit) ad => bQ cI cO 13 ad) (fun _ => True) := by
  refine z_goc zm_X2_init rfl (by decide) ?_
  intro p e s m args below meth c A q Q X hnm hO fin
  have loop : ∀ d i, i + d = 13 → ∀ (N cells slots : Nat), N = 2 * i + 2 → cells = 2 * i + 1 → slots = 54 * i + 13 → ∀ (ad : Nat → Nat), zCx p s m args meth c cX2_init 2 RX2 none D tys N ad A → ad 0 = q → ∀ g : Nat → va_E, (∀ j, j < N → g j = bQ cI cO i ad j) → Z p l e (zRc 2 27 715) s m args below meth c 2 D N ad A cells slots Q 15 [(1, .int (iZ (i : Int))), (0, .ref q)] [] g := by
    intro d
    induction d with
    | zero =>
      intro i hi N cells slots hN hcl hsl ad X h0 g hg
      refine z_iload_n X 0 rfl rfl dX2_init_15 ?_
      refine z_bipush X (n := 13) (by decide) dX2_init_16 ?_
      refine z_icmp_ge X (tgt := 40) (by omega) (by omega) dX2_init_18 (by decide) (fun h18 => ?_) (fun h18 => absurd h18 (by omega))
      have e : i = 13 := by omega
      subst e
      subst hN
      exact fin () (by omega) (by omega) X h0 hg trivial dX2_init_40
    | succ d ih =>
      intro i hi N cells slots hN hcl hsl ad X h0 g hg
      refine z_iload_n X 0 rfl rfl dX2_init_15 ?_
      refine z_bipush X (n := 13) (by decide) dX2_init_16 ?_
      refine z_icmp_ge X (tgt := 40) (by omega) (by omega) dX2_init_18 (by decide) (fun h18 => absurd h18 (by omega)) (fun h18 => ?_)
      refine z_aload_n X 1 rfl rfl dX2_init_21 ?_
      refine z_stq (st9 := [.ref (ad 0)]) (by rw [h0]) ?_
      refine z_get X zinX2 0 (by omega) ((hg 0 (by omega)).trans bQ_0) (ci := 4) rfl 0 (by decide) (ref := "TowerFields$Poly") zw49 rfl rfl dX2_init_22 ?_
      refine z_iload_n X 0 rfl rfl dX2_init_25 ?_
      refine z_new X (C := RX1) (T := TX1) (NF := 2) (ci := 3) zinX1 tyX1 tyX1_ok rfl (fs := [.null, .int 0]) (by decide +kernel) zw46 zw25 zw2 (by show cells + 1 ≤ 27; omega) (by show slots + 2 ≤ 715; omega) dX2_init_26 (fun q1 X1 => ?_)
      refine z_dup X1 rfl dX2_init_29 ?_
      refine z_callCN (host := "TowerFields") X1 hO zm_X1_init rfl zw27 (List.mem_of_getElem? (i := 3) rfl) ⟨by decide, by decide, by show cells + 1 + 1 ≤ 27; omega, by show slots + 2 + 52 ≤ 715; omega⟩ (c_X1_init l hI) (Nat.le_of_ble_eq_true rfl) dX2_init_30 (fun _ α hα _ X2 => ?_)
      have a0 : zg N ad α 0 = ad 0 := zg_l (by omega)
      have a1 : zg N ad α 1 = ad 1 := zg_l (by omega)
      have aN : zg N ad α N = q1 := by rw [zg_r (Nat.le_refl N), Nat.sub_self, hα]
      have al : ∀ t, t < N → zg N ad α t = ad t := fun t ht => zg_l ht
      have ar : ∀ t, zg N ad α (N + t) = α t := fun t => by rw [zg_r (by omega), Nat.add_sub_cancel_left]
      generalize zg N ad α = ad2 at X2 a0 a1 aN al ar ⊢
      refine z_stq (st9 := [.ref (ad2 N), .int (iZ (i : Int)), .ref (ad2 1)]) (by rw [a1, aN]) ?_
      refine z_astq X2 1 1 N 3 (r := vwCl[3]) (by omega) (by omega) ((zg_l (by omega)).trans ((hg 1 (by omega)).trans bQ_1)) hQ ((zg_r (Nat.le_refl N)).trans (by rw [Nat.sub_self]; exact if_pos rfl)) rfl (by omega) (by omega) (by omega) dX2_init_33 ?_
      refine z_iinc X2 [(1, .int (iZ ((i : Int) + 1))), (0, .ref q)] 0 rfl rfl (by decide) dX2_init_34 ?_
      refine z_goto X2 (tgt := 15) dX2_init_37 (by decide) ?_
      refine ih (i + 1) (by omega) (N + 2) _ _ (by omega) (by omega) (by omega) ad2 X2 (a0.trans h0) _ (fun j hj => ?_)
      by_cases j1 : j = 1
      · rw [j1, va_up_self, bQ_1]
        congr 7
        funext t
        rw [Int.toNat_natCast]
        by_cases ti : t = i
        · rw [ti, va_up_self, if_pos (by omega), hN]
        · rw [va_up_ne _ _ ti]
          by_cases tl : t < i
          · rw [if_pos tl, if_pos (by omega), al _ (by omega)]
          · rw [if_neg tl, if_neg (by omega)]
      · rw [va_up_ne _ _ j1]
        by_cases jN : j < N
        · rw [zg_l jN, hg j jN]
          by_cases j0 : j = 0
          · rw [j0, bQ_0, bQ_0, a1]
          · rw [show j = 2 * ((j - 2) / 2) + 2 + (j - 2) % 2 by omega, bQ_l (by omega), bQ_l (by omega)]
            exact (bL_cong (fun t ht => al _ (by omega))).symm
        · rw [zg_r (by omega), show j = 2 * i + 2 + (j - N) by omega, bQ_l (by omega), show 2 * i + 2 + (j - N) - N = j - N by omega]
          exact (bL_cong (fun t ht => by rw [← hN]; exact ar t)).symm
  refine z_aload_n X 0 rfl rfl dX2_init_0 ?_
  refine z_objinit X zw45 (by decide) dX2_init_1 ?_
  refine z_aload_n X 0 rfl rfl dX2_init_4 ?_
  refine z_bipush X (n := 13) (by decide) dX2_init_5 ?_
  refine z_newQ X 1 hQ zw46 hO (n := 13) (n9 := 13) (by omega) (by omega) rfl (by decide) (by decide) (by decide) dX2_init_7 (fun q1 X1 => ?_)
  have e0 : zg 1 (fun _ => q) (fun _ => q1) 0 = q := zg_l (by omega)
  have e1 : zg 1 (fun _ => q) (fun _ => q1) 1 = q1 := zg_r (by omega)
  generalize zg 1 (fun _ => q) (fun _ => q1) = ad at X1 e0 e1 ⊢
  refine z_stq (st9 := [.ref (ad 1), .ref (ad 0)]) (by rw [e0, e1]) ?_
  refine z_putF X1 hnm zinX2 tyX2 tyX2_ok nmX2 0 (by omega) (zg_l (by omega)) (ci := 4) rfl 0 (by decide) (ref := "TowerFields$Poly") zw49 rfl rfl rfl (ty := .array (.object "TowerFields$Line")) (by decide +kernel) rfl rfl (Nat.le_of_ble_eq_true rfl) dX2_init_10 ?_
  refine z_iconst X1 (n := 0) dX2_init_13 ?_
  refine z_istore_n X1 [(1, .int (iZ 0)), (0, .ref q)] rfl rfl (by decide) dX2_init_14 ?_
  refine loop 13 0 rfl 2 1 13 rfl rfl rfl ad X1 e0 _ (fun j hj => ?_)
  rcases (by omega : j = 0 ∨ j = 1) with rfl | rfl
  · rfl
  · rfl
