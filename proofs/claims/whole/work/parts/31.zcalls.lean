/-! contracts over the world, calls and ends -/
def zRm (lev : Nat) : Room := { frames := lev, cells := 0, slots := 0, locals := 40 * lev }
def zWs (y : MethodName) (cc : ByteArray) (maxL : Nat) (ret : Option FieldType) : List Cond := Cond.code y cc maxL ret :: wsG
/-- a method's facts in the tables -/
def zMe (y : MethodName) (cc : ByteArray) (maxL : Nat) (ret : Option FieldType) (n : Nat) : Prop :=
  Cond.code y cc maxL ret ∈ wsG ∧ Cond.initialized y.cls ∈ wsG ∧ (y.cls ≠ "java/lang/invoke/MethodHandle" ∧ y.cls ≠ "java/lang/invoke/VarHandle") ∧ (parseMethodDescriptor y.desc).map (fun d => d.parameters.length) = some n ∧ plainName y.cls = true
theorem wsG_good {w : Cond} (h : w ∈ wsG) : goodWord w = true := (List.mem_filter.mp h).2
theorem zPay {y : MethodName} {cc : ByteArray} {maxL : Nat} {ret : Option FieldType} {args : Array Value} {s : State} (hc : Cond.code y cc maxL ret ∈ wsG) (hts : ∀ w ∈ wsG, w.before args s = true) : ∀ w ∈ zWs y cc maxL ret, ∀ (a' : Array Value) (U : State), s.WarmedH U.vm → w.before a' U = true := by
  intro w hw a' U hW
  have h : w ∈ wsG := by
    rcases List.mem_cons.mp hw with h | h
    · rw [h]; exact hc
    · exact h
  exact word_at hW (good_of_word (wsG_good h)) (hts w h)
def zPre (D : va_G) (tys : List (ClassId × FieldType)) (N : Nat) (ad : Nat → Nat) (g : Nat → va_E) (sz : Nat) : State → Prop := fun U => U.heap.size = sz ∧ zKs D tys U ∧ zInj N ad ∧ zP D N ad g U.heap
/-- the ends: an int, nothing, a reference into the world -/
def zQi {S : Type} (D : va_G) (N : Nat) (ad : Nat → Nat) (G : S → Nat → va_E) (post : Int → S → Prop) (A : Nat → Prop) : Array Value → State → Outcome → State → Prop := va_Qi (fun r (u : Int × S) => r = iZ u.1 ∧ post u.1 u.2) (fun u t => zP D N ad (G u.2) t.heap) A
def zQv {S : Type} (D : va_G) (N : Nat) (ad : Nat → Nat) (G : S → Nat → va_E) (post : S → Prop) (A : Nat → Prop) : Array Value → State → Outcome → State → Prop := va_Qv post (fun u t => zP D N ad (G u) t.heap) A
def zQr {S : Type} (D : va_G) (N : Nat) (ad : Nat → Nat) (G : S → Nat → va_E) (post : Nat → S → Prop) (A : Nat → Prop) : Array Value → State → Outcome → State → Prop := va_Qr (fun (u : Nat × S) => post u.1 u.2) (fun u a t => a = ad u.1 ∧ zP D N ad (G u.2) t.heap) A
def zMi {S : Type} (l : Launch) (y : MethodName) (cc : ByteArray) (maxL : Nat) (ret : Option FieldType) (lev : Nat) (D : va_G) (tys : List (ClassId × FieldType)) (N : Nat) (ad : Nat → Nat) (av : List Value) (g : Nat → va_E) (G : S → Nat → va_E) (post : Int → S → Prop) : Prop :=
  ∀ sz, Met l y (zWs y cc maxL ret) (zRm lev) (va_Pc av (zPre D tys N ad g sz)) (zQi D N ad G post (zAd N ad sz)) 0 0 (zAd N ad sz)
def zMv {S : Type} (l : Launch) (y : MethodName) (cc : ByteArray) (maxL : Nat) (lev : Nat) (D : va_G) (tys : List (ClassId × FieldType)) (N : Nat) (ad : Nat → Nat) (av : List Value) (g : Nat → va_E) (G : S → Nat → va_E) (post : S → Prop) : Prop :=
  ∀ sz, Met l y (zWs y cc maxL none) (zRm lev) (va_Pc av (zPre D tys N ad g sz)) (zQv D N ad G post (zAd N ad sz)) 0 0 (zAd N ad sz)
def zMr {S : Type} (l : Launch) (y : MethodName) (cc : ByteArray) (maxL : Nat) (ret : Option FieldType) (lev : Nat) (D : va_G) (tys : List (ClassId × FieldType)) (N : Nat) (ad : Nat → Nat) (av : List Value) (g : Nat → va_E) (G : S → Nat → va_E) (post : Nat → S → Prop) : Prop :=
  ∀ sz, Met l y (zWs y cc maxL ret) (zRm lev) (va_Pc av (zPre D tys N ad g sz)) (zQr D N ad G post (zAd N ad sz)) 0 0 (zAd N ad sz)
theorem zBlind {D : va_G} {tys : List (ClassId × FieldType)} {N : Nat} {ad : Nat → Nat} {g : Nat → va_E} {sz : Nat} {av : List Value} : FrameBlind (va_Pc av (zPre D tys N ad g sz)) := by
  intro a U g' mk ⟨h1, h2, h3, h4, h5⟩
  exact ⟨h1, h2, zKs.same (u := U) (U := U.calling g' mk a) rfl h3, h4, h5⟩
section ZE
variable {l : Launch} {y : MethodName} {cc : ByteArray} {maxL lev : Nat} {ret : Option FieldType} {D : va_G} {tys : List (ClassId × FieldType)} {N : Nat} {ad : Nat → Nat} {av : List Value} {g : Nat → va_E} {n : Nat}
theorem z_start {Qc : Nat → Array Value → State → Outcome → State → Prop} (hm : zMe y cc maxL ret n) (hl : (lg_sl av).length ≤ maxL)
    (body : ∀ (p : Program) (e : Env) (s : State) (m : MethodId) (args : Array Value) (below : List Frame) (meth : Method) (c : Code), zCx p s m args meth c cc maxL y.cls ret D tys N ad (zAd N ad s.heap.size) →
      Z p l e (zRm lev) s m args below meth c maxL D N ad (zAd N ad s.heap.size) 0 0 (MQ below (Qc s.heap.size) args s 0 0 (zAd N ad s.heap.size)) 0 (lv_args 0 av) [] g) (sz : Nat) :
    Met l y (zWs y cc maxL ret) (zRm lev) (va_Pc av (zPre D tys N ad g sz)) (Qc sz) 0 0 (zAd N ad sz) := by
  refine Met.ofW (cc := cc) (maxL := maxL) (ret := ret) hm.2.2.2.2 rfl ?_
  intro p e s m args below meth c s₁ B hml hv
  obtain ⟨rfl, hsz, hK, hI, hP⟩ := hv
  subst hsz
  have hts : ∀ w ∈ zWs y cc maxL ret, w.before av.toArray s = true := atoms_spec (ws := zWs y cc maxL ret) B.pre
  rw [lg_entry_eq]
  exact body p e s m av.toArray below meth c ⟨B.exec, B.bytes, hml, findClass_of_methodNamed B.named, fun w hw => hts w (List.mem_cons_of_mem _ hw), hK, hI, fun k hk => Or.inl ⟨k, hk, rfl⟩, fun q hq => Or.inr hq, B.returns, B.notSynchronized⟩ _ _ _ (lv_entry av hl) hP va_S.rf
theorem z_starti {S : Type} {G : S → Nat → va_E} {post : Int → S → Prop} (hm : zMe y cc maxL ret n) (hl : (lg_sl av).length ≤ maxL)
    (body : ∀ (p : Program) (e : Env) (s : State) (m : MethodId) (args : Array Value) (below : List Frame) (meth : Method) (c : Code), zCx p s m args meth c cc maxL y.cls ret D tys N ad (zAd N ad s.heap.size) →
      Z p l e (zRm lev) s m args below meth c maxL D N ad (zAd N ad s.heap.size) 0 0 (MQ below (zQi D N ad G post (zAd N ad s.heap.size)) args s 0 0 (zAd N ad s.heap.size)) 0 (lv_args 0 av) [] g) :
    zMi l y cc maxL ret lev D tys N ad av g G post := z_start (Qc := fun sz => zQi D N ad G post (zAd N ad sz)) hm hl body
theorem z_startv {S : Type} {G : S → Nat → va_E} {post : S → Prop} (hm : zMe y cc maxL none n) (hl : (lg_sl av).length ≤ maxL)
    (body : ∀ (p : Program) (e : Env) (s : State) (m : MethodId) (args : Array Value) (below : List Frame) (meth : Method) (c : Code), zCx p s m args meth c cc maxL y.cls none D tys N ad (zAd N ad s.heap.size) →
      Z p l e (zRm lev) s m args below meth c maxL D N ad (zAd N ad s.heap.size) 0 0 (MQ below (zQv D N ad G post (zAd N ad s.heap.size)) args s 0 0 (zAd N ad s.heap.size)) 0 (lv_args 0 av) [] g) :
    zMv l y cc maxL lev D tys N ad av g G post := z_start (Qc := fun sz => zQv D N ad G post (zAd N ad sz)) hm hl body
theorem z_startr {S : Type} {G : S → Nat → va_E} {post : Nat → S → Prop} (hm : zMe y cc maxL ret n) (hl : (lg_sl av).length ≤ maxL)
    (body : ∀ (p : Program) (e : Env) (s : State) (m : MethodId) (args : Array Value) (below : List Frame) (meth : Method) (c : Code), zCx p s m args meth c cc maxL y.cls ret D tys N ad (zAd N ad s.heap.size) →
      Z p l e (zRm lev) s m args below meth c maxL D N ad (zAd N ad s.heap.size) 0 0 (MQ below (zQr D N ad G post (zAd N ad s.heap.size)) args s 0 0 (zAd N ad s.heap.size)) 0 (lv_args 0 av) [] g) :
    zMr l y cc maxL ret lev D tys N ad av g G post := z_start (Qc := fun sz => zQr D N ad G post (zAd N ad sz)) hm hl body
end ZE
section ZC
variable {p : Program} {l : Launch} {e : Env} {R : Room} {s : State} {m : MethodId} {args : Array Value} {below : List Frame} {meth : Method} {c : Code} {cc : ByteArray} {nL : Nat} {own : String} {ret : Option FieldType} {D : va_G} {tys : List (ClassId × FieldType)} {N : Nat} {ad : Nat → Nat} {A : Nat → Prop} {cells slots : Nat} {Q : State → Prop} {pc : Nat} {lv : List (Nat × Value)} {st : List Value} {g : Nat → va_E}
theorem z_endi {S : Type} {G : S → Nat → va_E} {post : Int → S → Prop} (X : zCx p s m args meth c cc nL own (some .int) D tys N ad A) {z : Int} (u : S) (hp : post z u) (hg : g = G u) (hd : decode cc pc = .ok (.ireturn, 1)) : Z p l e R s m args below meth c nL D N ad A cells slots (MQ below (zQi D N ad G post A) args s cells slots A) pc lv [.int (iZ z)] g := fun H locs ls hl hP hS =>
  W.iret (zx_e X) (zx_b X) (zx_r X) (fun t ht hW => ⟨⟨iZ z, (z, u), rfl, ⟨rfl, hp⟩, by dsimp only; rw [ht, ← hg]; exact hP⟩, hS.F ht⟩) hS.2.2 hd (zx_l X)
theorem z_endz {S : Type} {G : S → Nat → va_E} {post : Int → S → Prop} (X : zCx p s m args meth c cc nL own (some .boolean) D tys N ad A) {z : Int} (u : S) (hz : z = 0 ∨ z = 1) (hp : post z u) (hg : g = G u) (hd : decode cc pc = .ok (.ireturn, 1)) : Z p l e R s m args below meth c nL D N ad A cells slots (MQ below (zQi D N ad G post A) args s cells slots A) pc lv [.int (iZ z)] g := fun H locs ls hl hP hS =>
  W.zret (zx_e X) (zx_b X) (zx_r X) (by rcases hz with h | h <;> rw [h] <;> rfl) (fun t ht hW => ⟨⟨iZ z, (z, u), rfl, ⟨rfl, hp⟩, by dsimp only; rw [ht, ← hg]; exact hP⟩, hS.F ht⟩) hS.2.2 hd (zx_l X)
theorem z_endv {S : Type} {G : S → Nat → va_E} {post : S → Prop} (X : zCx p s m args meth c cc nL own none D tys N ad A) (u : S) (hp : post u) (hg : g = G u) (hd : decode cc pc = .ok (.return_, 1)) : Z p l e R s m args below meth c nL D N ad A cells slots (MQ below (zQv D N ad G post A) args s cells slots A) pc lv [] g := fun H locs ls hl hP hS =>
  W.vret (zx_e X) (zx_b X) (zx_r X) (fun t ht hW => ⟨⟨u, rfl, hp, by dsimp only; rw [ht, ← hg]; exact hP⟩, hS.F ht⟩) hS.2.2 hd (zx_l X)
theorem z_endr {S : Type} {G : S → Nat → va_E} {post : Nat → S → Prop} {C : String} (X : zCx p s m args meth c cc nL own (some (.object C)) D tys N ad A) {k : Nat} (u : S) (hp : post k u) (hg : g = G u) (hd : decode cc pc = .ok (.areturn, 1)) : Z p l e R s m args below meth c nL D N ad A cells slots (MQ below (zQr D N ad G post A) args s cells slots A) pc lv [.ref (ad k)] g := fun H locs ls hl hP hS =>
  W.aret (zx_e X) (zx_b X) (zx_r X) (Or.inl ⟨_, rfl⟩) (Or.inr ⟨_, rfl⟩) (fun t ht hW => ⟨⟨(k, u), ad k, rfl, hp, rfl, by dsimp only; rw [ht, ← hg]; exact hP⟩, hS.F ht⟩) hS.2.2 hd (zx_l X)
/-- what a call wants of the room -/
def zFit (R : Room) (cells slots maxL lev : Nat) : Prop := lev + 1 ≤ R.frames ∧ 8 + (maxL + 11) + 40 * lev ≤ R.locals ∧ cells ≤ R.cells ∧ slots ≤ R.slots
theorem z_runV (X : zCx p s m args meth c cc nL own ret D tys N ad A) {y : MethodName} {cc' : ByteArray} {maxL' lev' n index : Nat} {ret' : Option FieldType} {As : List Value} {b : Nat} {Qc : Array Value → State → Outcome → State → Prop} {H : Heap} {locs : List Loc} {ls : Array Slot} {stk : List Value} (hm : zMe y cc' maxL' ret' n) (hin : Cond.instanceMethod y ∈ wsG) (hse : Cond.selects y.cls y y ∈ wsG) (hlink : Cond.methodLink own index y ∈ wsG) (hfit : zFit R cells slots maxL' lev') (hM : Met l y (zWs y cc' maxL' ret') (zRm lev') (va_Pc (.ref (ad b) :: As) (zPre D tys N ad g H.size)) Qc 0 0 (zAd N ad H.size))
    (hn : As.length = n) (hst : stk = As.reverse ++ .ref (ad b) :: st) (hW : (st.map fun v => v.category).sum ≤ 8) (hb : b < N) {ci : Nat} {fs : List Value} (he : g b = .inr (ci, fs)) {q : vw_C} (hc : vwCl[ci]? = some q) (hq : q.1 = y.cls) (hd : decode cc pc = .ok (.invokevirtual index, 3)) (hl : lv_has ls nL lv) (hP : zP D N ad g H) :
    va_Run p l e R s m args below meth c H locs cells slots 0 0 (F0 m pc ls stk) st (Qc (Value.ref (ad b) :: As).toArray) (zAd N ad H.size) := by
  have hK := zx_K X
  have h1 := va_recv hK.1 hP hc (show (z_w N ad g)[b]? = some (ad b, .inr (ci, fs)) by rw [z_w_get hb, he])
  rw [hq] at h1
  exact va_runV (Ts := wsG) (C := y.cls) ⟨zx_e X, zx_b X, zx_m X, zx_o X, zx_w X⟩ hM
    ⟨⟨rfl, rfl, hfit.1, hfit.2.1, zPay hm.1 (zx_w X), List.mem_cons_self, zx_w X _ hm.1, zx_w X _ hm.2.1, hm.2.2.1, fun sig h => (by have h2 := hm.2.2.2.1; rw [h] at h2; exact (Option.some.inj h2).symm), zx_w X _ hlink⟩, zx_w X _ hin, zx_w X _ hse⟩
    ⟨zBlind, h1, fun U hU hW => ⟨rfl, by rw [hU], hK.warm hW, zx_I X, by rw [hU]; exact hP⟩⟩ rfl hn hl.1 hst (lv_room hW) hd ⟨hfit.2.2.1, hfit.2.2.2⟩
theorem z_runS (X : zCx p s m args meth c cc nL own ret D tys N ad A) {y : MethodName} {cc' : ByteArray} {maxL' lev' n index : Nat} {ret' : Option FieldType} {As : List Value} {Qc : Array Value → State → Outcome → State → Prop} {H : Heap} {locs : List Loc} {ls : Array Slot} {stk : List Value} (hm : zMe y cc' maxL' ret' n) (hsta : Cond.static y ∈ wsG) (hlink : Cond.methodLink own index y ∈ wsG) (hfit : zFit R cells slots maxL' lev') (hM : Met l y (zWs y cc' maxL' ret') (zRm lev') (va_Pc As (zPre D tys N ad g H.size)) Qc 0 0 (zAd N ad H.size))
    (hn : As.length = n) (hst : stk = As.reverse ++ st) (hW : (st.map fun v => v.category).sum ≤ 8) (hd : decode cc pc = .ok (.invokestatic index, 3)) (hl : lv_has ls nL lv) (hP : zP D N ad g H) :
    va_Run p l e R s m args below meth c H locs cells slots 0 0 (F0 m pc ls stk) st (Qc As.toArray) (zAd N ad H.size) := by
  have hK := zx_K X
  exact va_runS (Ts := wsG) ⟨zx_e X, zx_b X, zx_m X, zx_o X, zx_w X⟩ hM
    ⟨⟨rfl, rfl, hfit.1, hfit.2.1, zPay hm.1 (zx_w X), List.mem_cons_self, zx_w X _ hm.1, zx_w X _ hm.2.1, hm.2.2.1, fun sig h => (by have h2 := hm.2.2.2.1; rw [h] at h2; exact (Option.some.inj h2).symm), zx_w X _ hlink⟩, zx_w X _ hsta⟩
    ⟨zBlind, fun U hU hW => ⟨rfl, by rw [hU], hK.warm hW, zx_I X, by rw [hU]; exact hP⟩⟩ rfl hn hl.1 hst (lv_room hW) hd ⟨hfit.2.2.1, hfit.2.2.2⟩
theorem z_runSN (X : zCx p s m args meth c cc nL own ret D tys N ad A) {y : MethodName} {cc' : ByteArray} {maxL' lev' n index : Nat} {ret' : Option FieldType} {As : List Value} {host : String} {Qc : Array Value → State → Outcome → State → Prop} {H : Heap} {locs : List Loc} {ls : Array Slot} {stk : List Value} (hm : zMe y cc' maxL' ret' n) (hsta : Cond.static y ∈ wsG) (hlink : Cond.methodLinkNest own index y host ∈ zNest) (hfit : zFit R cells slots maxL' lev') (hM : Met l y (zWs y cc' maxL' ret') (zRm lev') (va_Pc As (zPre D tys N ad g H.size)) Qc 0 0 (zAd N ad H.size))
    (hn : As.length = n) (hst : stk = As.reverse ++ st) (hW : (st.map fun v => v.category).sum ≤ 8) (hd : decode cc pc = .ok (.invokestatic index, 3)) (hl : lv_has ls nL lv) (hP : zP D N ad g H) :
    va_Run p l e R s m args below meth c H locs cells slots 0 0 (F0 m pc ls stk) st (Qc As.toArray) (zAd N ad H.size) := by
  have hK := zx_K X
  exact va_runSN (Ts := wsG) (host := host) ⟨zx_e X, zx_b X, zx_m X, zx_o X, zx_w X⟩ hM
    ⟨⟨⟨rfl, rfl, hfit.1, hfit.2.1, zPay hm.1 (zx_w X), List.mem_cons_self⟩, zx_w X _ hm.1, zx_w X _ hm.2.1, hm.2.2.1, fun sig h => (by have h2 := hm.2.2.2.1; rw [h] at h2; exact (Option.some.inj h2).symm), zx_n X hlink rfl⟩, zx_w X _ hsta, trivial⟩
    ⟨zBlind, fun U hU hW => ⟨rfl, by rw [hU], hK.warm hW, zx_I X, by rw [hU]; exact hP⟩⟩ rfl hn hl.1 hst (lv_room hW) hd ⟨hfit.2.2.1, hfit.2.2.2⟩
theorem zAd_in (X : zCx p s m args meth c cc nL own ret D tys N ad A) {H : Heap} {locs : List Loc} (hS : va_S A s.heap H locs) : ∀ q, zAd N ad H.size q → A q := by
  rintro q (⟨k, hk, rfl⟩ | h)
  · exact zx_A X k hk
  · exact zx_F X q (Nat.le_trans hS.1 h)
theorem z_callVi {S : Type} {G : S → Nat → va_E} {post : Int → S → Prop} (X : zCx p s m args meth c cc nL own ret D tys N ad A) {y : MethodName} {cc' : ByteArray} {maxL' lev' n index : Nat} {ret' : Option FieldType} (hm : zMe y cc' maxL' ret' n) (hin : Cond.instanceMethod y ∈ wsG) (hse : Cond.selects y.cls y y ∈ wsG) (hlink : Cond.methodLink own index y ∈ wsG) (hfit : zFit R cells slots maxL' lev') (As : List Value) {b : Nat} (hM : zMi l y cc' maxL' ret' lev' D tys N ad (.ref (ad b) :: As) g G post) {stk : List Value} (hst : stk = As.reverse ++ .ref (ad b) :: st) (hn : As.length = n) (hW : (st.map fun v => v.category).sum ≤ 8) (hb : b < N) {ci : Nat} {fs : List Value} (he : g b = .inr (ci, fs)) {q : vw_C} (hc : vwCl[ci]? = some q) (hq : q.1 = y.cls) (hd : decode cc pc = .ok (.invokevirtual index, 3)) (k : ∀ (z : Int) (u : S), post z u → Z p l e R s m args below meth c nL D N ad A cells slots Q (pc + 3) lv (.int (iZ z) :: st) (G u)) : Z p l e R s m args below meth c nL D N ad A cells slots Q pc lv stk g := by
  intro H locs ls hl hP hS
  have hf := zAd_in X hS
  refine va_calli (z_runV X hm hin hse hlink hfit (hM H.size) hn hst hW hb he hc hq hd hl hP) hS (fun q _ h => hf q h) hf (fun r u t H1 locs1 ht hvm hw hB _ _ hS1 => ?_)
  obtain ⟨z, u⟩ := u
  obtain ⟨rfl, hw⟩ := hw
  rw [ht] at hB
  exact k z u hw H1 locs1 ls hl hB hS1
theorem z_callVv {S : Type} {G : S → Nat → va_E} {post : S → Prop} (X : zCx p s m args meth c cc nL own ret D tys N ad A) {y : MethodName} {cc' : ByteArray} {maxL' lev' n index : Nat} (hm : zMe y cc' maxL' none n) (hin : Cond.instanceMethod y ∈ wsG) (hse : Cond.selects y.cls y y ∈ wsG) (hlink : Cond.methodLink own index y ∈ wsG) (hfit : zFit R cells slots maxL' lev') (As : List Value) {b : Nat} (hM : zMv l y cc' maxL' lev' D tys N ad (.ref (ad b) :: As) g G post) {stk : List Value} (hst : stk = As.reverse ++ .ref (ad b) :: st) (hn : As.length = n) (hW : (st.map fun v => v.category).sum ≤ 8) (hb : b < N) {ci : Nat} {fs : List Value} (he : g b = .inr (ci, fs)) {q : vw_C} (hc : vwCl[ci]? = some q) (hq : q.1 = y.cls) (hd : decode cc pc = .ok (.invokevirtual index, 3)) (k : ∀ (u : S), post u → Z p l e R s m args below meth c nL D N ad A cells slots Q (pc + 3) lv st (G u)) : Z p l e R s m args below meth c nL D N ad A cells slots Q pc lv stk g := by
  intro H locs ls hl hP hS
  have hf := zAd_in X hS
  refine va_callv (z_runV X hm hin hse hlink hfit (hM H.size) hn hst hW hb he hc hq hd hl hP) hS (fun q _ h => hf q h) hf (fun u t H1 locs1 ht hvm hw hB _ _ hS1 => ?_)
  rw [ht] at hB
  exact k u hw H1 locs1 ls hl hB hS1
theorem z_callVr {S : Type} {G : S → Nat → va_E} {post : Nat → S → Prop} (X : zCx p s m args meth c cc nL own ret D tys N ad A) {y : MethodName} {cc' : ByteArray} {maxL' lev' n index : Nat} {ret' : Option FieldType} (hm : zMe y cc' maxL' ret' n) (hin : Cond.instanceMethod y ∈ wsG) (hse : Cond.selects y.cls y y ∈ wsG) (hlink : Cond.methodLink own index y ∈ wsG) (hfit : zFit R cells slots maxL' lev') (As : List Value) {b : Nat} (hM : zMr l y cc' maxL' ret' lev' D tys N ad (.ref (ad b) :: As) g G post) {stk : List Value} (hst : stk = As.reverse ++ .ref (ad b) :: st) (hn : As.length = n) (hW : (st.map fun v => v.category).sum ≤ 8) (hb : b < N) {ci : Nat} {fs : List Value} (he : g b = .inr (ci, fs)) {q : vw_C} (hc : vwCl[ci]? = some q) (hq : q.1 = y.cls) (hd : decode cc pc = .ok (.invokevirtual index, 3)) (k : ∀ (j : Nat) (u : S), post j u → Z p l e R s m args below meth c nL D N ad A cells slots Q (pc + 3) lv (.ref (ad j) :: st) (G u)) : Z p l e R s m args below meth c nL D N ad A cells slots Q pc lv stk g := by
  intro H locs ls hl hP hS
  have hf := zAd_in X hS
  refine va_callr (z_runV X hm hin hse hlink hfit (hM H.size) hn hst hW hb he hc hq hd hl hP) hS (fun q _ h => hf q h) hf (fun u ra t H1 locs1 ht hvm hw hB _ _ hS1 => ?_)
  obtain ⟨j, u⟩ := u
  obtain ⟨rfl, hB⟩ := hB
  rw [ht] at hB
  exact k j u hw H1 locs1 ls hl hB hS1
theorem z_callSi {S : Type} {G : S → Nat → va_E} {post : Int → S → Prop} (X : zCx p s m args meth c cc nL own ret D tys N ad A) {y : MethodName} {cc' : ByteArray} {maxL' lev' n index : Nat} {ret' : Option FieldType} (hm : zMe y cc' maxL' ret' n) (hsta : Cond.static y ∈ wsG) (hlink : Cond.methodLink own index y ∈ wsG) (hfit : zFit R cells slots maxL' lev') (As : List Value) (hM : zMi l y cc' maxL' ret' lev' D tys N ad As g G post) {stk : List Value} (hst : stk = As.reverse ++ st) (hn : As.length = n) (hW : (st.map fun v => v.category).sum ≤ 8) (hd : decode cc pc = .ok (.invokestatic index, 3)) (k : ∀ (z : Int) (u : S), post z u → Z p l e R s m args below meth c nL D N ad A cells slots Q (pc + 3) lv (.int (iZ z) :: st) (G u)) : Z p l e R s m args below meth c nL D N ad A cells slots Q pc lv stk g := by
  intro H locs ls hl hP hS
  have hf := zAd_in X hS
  refine va_calli (z_runS X hm hsta hlink hfit (hM H.size) hn hst hW hd hl hP) hS (fun q _ h => hf q h) hf (fun r u t H1 locs1 ht hvm hw hB _ _ hS1 => ?_)
  obtain ⟨z, u⟩ := u
  obtain ⟨rfl, hw⟩ := hw
  rw [ht] at hB
  exact k z u hw H1 locs1 ls hl hB hS1
theorem z_callSv {S : Type} {G : S → Nat → va_E} {post : S → Prop} (X : zCx p s m args meth c cc nL own ret D tys N ad A) {y : MethodName} {cc' : ByteArray} {maxL' lev' n index : Nat} (hm : zMe y cc' maxL' none n) (hsta : Cond.static y ∈ wsG) (hlink : Cond.methodLink own index y ∈ wsG) (hfit : zFit R cells slots maxL' lev') (As : List Value) (hM : zMv l y cc' maxL' lev' D tys N ad As g G post) {stk : List Value} (hst : stk = As.reverse ++ st) (hn : As.length = n) (hW : (st.map fun v => v.category).sum ≤ 8) (hd : decode cc pc = .ok (.invokestatic index, 3)) (k : ∀ (u : S), post u → Z p l e R s m args below meth c nL D N ad A cells slots Q (pc + 3) lv st (G u)) : Z p l e R s m args below meth c nL D N ad A cells slots Q pc lv stk g := by
  intro H locs ls hl hP hS
  have hf := zAd_in X hS
  refine va_callv (z_runS X hm hsta hlink hfit (hM H.size) hn hst hW hd hl hP) hS (fun q _ h => hf q h) hf (fun u t H1 locs1 ht hvm hw hB _ _ hS1 => ?_)
  rw [ht] at hB
  exact k u hw H1 locs1 ls hl hB hS1
theorem z_callSr {S : Type} {G : S → Nat → va_E} {post : Nat → S → Prop} (X : zCx p s m args meth c cc nL own ret D tys N ad A) {y : MethodName} {cc' : ByteArray} {maxL' lev' n index : Nat} {ret' : Option FieldType} (hm : zMe y cc' maxL' ret' n) (hsta : Cond.static y ∈ wsG) (hlink : Cond.methodLink own index y ∈ wsG) (hfit : zFit R cells slots maxL' lev') (As : List Value) (hM : zMr l y cc' maxL' ret' lev' D tys N ad As g G post) {stk : List Value} (hst : stk = As.reverse ++ st) (hn : As.length = n) (hW : (st.map fun v => v.category).sum ≤ 8) (hd : decode cc pc = .ok (.invokestatic index, 3)) (k : ∀ (j : Nat) (u : S), post j u → Z p l e R s m args below meth c nL D N ad A cells slots Q (pc + 3) lv (.ref (ad j) :: st) (G u)) : Z p l e R s m args below meth c nL D N ad A cells slots Q pc lv stk g := by
  intro H locs ls hl hP hS
  have hf := zAd_in X hS
  refine va_callr (z_runS X hm hsta hlink hfit (hM H.size) hn hst hW hd hl hP) hS (fun q _ h => hf q h) hf (fun u ra t H1 locs1 ht hvm hw hB _ _ hS1 => ?_)
  obtain ⟨j, u⟩ := u
  obtain ⟨rfl, hB⟩ := hB
  rw [ht] at hB
  exact k j u hw H1 locs1 ls hl hB hS1
theorem z_callSNi {S : Type} {G : S → Nat → va_E} {post : Int → S → Prop} (X : zCx p s m args meth c cc nL own ret D tys N ad A) {y : MethodName} {cc' : ByteArray} {maxL' lev' n index : Nat} {ret' : Option FieldType} (hm : zMe y cc' maxL' ret' n) (hsta : Cond.static y ∈ wsG) {host : String} (hlink : Cond.methodLinkNest own index y host ∈ zNest) (hfit : zFit R cells slots maxL' lev') (As : List Value) (hM : zMi l y cc' maxL' ret' lev' D tys N ad As g G post) {stk : List Value} (hst : stk = As.reverse ++ st) (hn : As.length = n) (hW : (st.map fun v => v.category).sum ≤ 8) (hd : decode cc pc = .ok (.invokestatic index, 3)) (k : ∀ (z : Int) (u : S), post z u → Z p l e R s m args below meth c nL D N ad A cells slots Q (pc + 3) lv (.int (iZ z) :: st) (G u)) : Z p l e R s m args below meth c nL D N ad A cells slots Q pc lv stk g := by
  intro H locs ls hl hP hS
  have hf := zAd_in X hS
  refine va_calli (z_runSN X hm hsta hlink hfit (hM H.size) hn hst hW hd hl hP) hS (fun q _ h => hf q h) hf (fun r u t H1 locs1 ht hvm hw hB _ _ hS1 => ?_)
  obtain ⟨z, u⟩ := u
  obtain ⟨rfl, hw⟩ := hw
  rw [ht] at hB
  exact k z u hw H1 locs1 ls hl hB hS1
theorem z_callSNv {S : Type} {G : S → Nat → va_E} {post : S → Prop} (X : zCx p s m args meth c cc nL own ret D tys N ad A) {y : MethodName} {cc' : ByteArray} {maxL' lev' n index : Nat} (hm : zMe y cc' maxL' none n) (hsta : Cond.static y ∈ wsG) {host : String} (hlink : Cond.methodLinkNest own index y host ∈ zNest) (hfit : zFit R cells slots maxL' lev') (As : List Value) (hM : zMv l y cc' maxL' lev' D tys N ad As g G post) {stk : List Value} (hst : stk = As.reverse ++ st) (hn : As.length = n) (hW : (st.map fun v => v.category).sum ≤ 8) (hd : decode cc pc = .ok (.invokestatic index, 3)) (k : ∀ (u : S), post u → Z p l e R s m args below meth c nL D N ad A cells slots Q (pc + 3) lv st (G u)) : Z p l e R s m args below meth c nL D N ad A cells slots Q pc lv stk g := by
  intro H locs ls hl hP hS
  have hf := zAd_in X hS
  refine va_callv (z_runSN X hm hsta hlink hfit (hM H.size) hn hst hW hd hl hP) hS (fun q _ h => hf q h) hf (fun u t H1 locs1 ht hvm hw hB _ _ hS1 => ?_)
  rw [ht] at hB
  exact k u hw H1 locs1 ls hl hB hS1
theorem z_callSNr {S : Type} {G : S → Nat → va_E} {post : Nat → S → Prop} (X : zCx p s m args meth c cc nL own ret D tys N ad A) {y : MethodName} {cc' : ByteArray} {maxL' lev' n index : Nat} {ret' : Option FieldType} (hm : zMe y cc' maxL' ret' n) (hsta : Cond.static y ∈ wsG) {host : String} (hlink : Cond.methodLinkNest own index y host ∈ zNest) (hfit : zFit R cells slots maxL' lev') (As : List Value) (hM : zMr l y cc' maxL' ret' lev' D tys N ad As g G post) {stk : List Value} (hst : stk = As.reverse ++ st) (hn : As.length = n) (hW : (st.map fun v => v.category).sum ≤ 8) (hd : decode cc pc = .ok (.invokestatic index, 3)) (k : ∀ (j : Nat) (u : S), post j u → Z p l e R s m args below meth c nL D N ad A cells slots Q (pc + 3) lv (.ref (ad j) :: st) (G u)) : Z p l e R s m args below meth c nL D N ad A cells slots Q pc lv stk g := by
  intro H locs ls hl hP hS
  have hf := zAd_in X hS
  refine va_callr (z_runSN X hm hsta hlink hfit (hM H.size) hn hst hW hd hl hP) hS (fun q _ h => hf q h) hf (fun u ra t H1 locs1 ht hvm hw hB _ _ hS1 => ?_)
  obtain ⟨j, u⟩ := u
  obtain ⟨rfl, hB⟩ := hB
  rw [ht] at hB
  exact k j u hw H1 locs1 ls hl hB hS1
end ZC
