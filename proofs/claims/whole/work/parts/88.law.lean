/-! THE CLAIM OUT OF ONE WALK OF THE LAW'S BODY. Your part is whole_start (and what it stands on); all else here is the same for every law, but numbers. -/
def R_law : String := "TowerFieldsLaw"
def lw_P (b : Addr) (xs : List Int32) (args : Array Value) (s : State) : Prop := args = #[.ref b] ∧ s.IntsAt b xs ∧ xs.length ≤ 320 ∧ (Jvm.Cond.and given_1 narrow_1).before args s = true
def lw_Q (_ : Array Value) (s : State) (o : Outcome) (t : State) : Prop := o = .returned (some (.int 1)) ∧ Framed s o t [] 600384 7290858
def lw_Z (below : List Frame) (a : Array Value) (s : State) : State → Prop := fun t => ∃ o, t.status = .running ∧ Ended t below o ∧ lw_Q a s o t
/-- the law's own end, with 1 on the stack, nothing written that was there before, its room as the claim has it -/
theorem lw_ret {p : Program} {l : Launch} {e : Env} {s : State} {m : MethodId} {below : List Frame} {meth : Method} {c : Code} {b : Nat} (hx : p.tables.exec = Jvm.exec) (hb : c.code = code) (hr : meth.sig.returnType = ret) (hlocks : meth.locks = false) {pc : Nat} {H : Heap} {ls : Array Slot} (hdg : decode code pc = .ok (.ireturn, 1)) : W p l e room_1 s m #[Value.ref b] below meth c H [] 600384 7290858 (lw_Z below #[Value.ref b] s) (F0 m pc ls [.int 1]) := by
  intro T hT X
  obtain ⟨fs, hret, hrun, hended, hW, hframe⟩ := X.leave (v := some (.int 1)) (hlocks := hlocks) (fun h => by rw [hr] at h; cases h)
  have hmeth' : T.vm.method? m = some meth := X.method'
  refine ⟨T.setFrames fs, ?_, .returned (some (.int 1)), hrun, hended, rfl, ⟨_, rfl⟩, hW, hframe⟩
  jvm_step X.here [X.here.top, hx, hb, hdg, hmeth', hr, ret, narrow_b1]
  (try refine ⟨rfl, ?_⟩); (try refine ⟨rfl, ?_⟩)
  first | (intro acts; rw [hret _ acts rfl rfl rfl]) | rw [hret _ _ rfl rfl rfl]
  exact Steps.refl _
/-- what holds at the law's entry: the machine, the code, the tables' words (any of lw_tbl by 'hts w (by decide +kernel)'), the script of L ints xs at the cell b, what the Statement gives of the start (any of its parts by flat_of_before) -/
def lw_At (p : Program) (s : State) (m : MethodId) (meth : Method) (c : Code) (b L : Nat) (xs : Nat → Int32) : Prop :=
  p.tables.exec = Jvm.exec ∧ c.code = code ∧ meth.sig.returnType = ret ∧ c.maxLocals = 7 ∧ s.vm.findClass R_law = some m.cls ∧ (∀ w ∈ lw_tbl, w.before #[Value.ref b] s = true) ∧ va_X b L xs s s.heap ∧ b < s.heap.size ∧ meth.locks = false ∧ (Jvm.Cond.and given_1 narrow_1).before #[Value.ref b] s = true
/-! the law's start, loop and end -/
section
variable {cI cO : ClassId} {a a9 : Nat → Nat} {S : zS} {M : zM} {k : Nat}
theorem gC_cong (h : ∀ t, t < 419 → a9 t = a t) (hS : ∀ k, k < 194 → S.1 k < 194) (hk : k < 419) : gC a9 cI cO S k = gC a cI cO S k := by
  rcases gC_cases k with rfl | rfl | rfl | ⟨q, hq, rfl⟩ | ⟨q, hq, rfl⟩ | ⟨q, hq, rfl⟩ | ⟨b, rfl⟩
  · rw [gC_T, gC_T, h (1) (by omega), h (182 + 31) (by omega), h (183 + 31) (by omega), h (0 + 3) (by omega), h (1 + 3) (by omega), h (2 + 3) (by omega), h (3 + 3) (by omega), h (4 + 3) (by omega), h (5 + 3) (by omega), h (6 + 3) (by omega), h (7 + 3) (by omega), h (8 + 3) (by omega), h (2) (by omega)]
  · rw [gC_N, gC_N]
  · rw [gC_D, gC_D, h (9 + 3) (by omega), h (10 + 3) (by omega), h (11 + 3) (by omega), h (12 + 3) (by omega), h (13 + 3) (by omega), h (184 + 31) (by omega), h (185 + 31) (by omega), h (186 + 31) (by omega), h (187 + 31) (by omega), h (188 + 31) (by omega), h (189 + 31) (by omega), h (190 + 31) (by omega), h (191 + 31) (by omega), h (192 + 31) (by omega), h (193 + 31) (by omega)]
  · rw [gC_P hq, gC_P hq, h _ (by omega)]
  · rw [gC_W hq, gC_W hq]
    congr 7
    funext i
    by_cases hi : i < 13
    · rw [if_pos hi, if_pos hi, h _ (by omega)]
    · rw [if_neg hi, if_neg hi]
  · have := hS q hq
    rw [gC_L hq, gC_L hq, h _ (by omega)]
  · rw [gC_A, gC_A]
theorem gM_cong (h : ∀ t, t < 18 → a9 t = a t) (hk : k < 18) : gM a9 cI M k = gM a cI M k := by
  by_cases k0 : k = 0
  · rw [k0, gM_O, gM_O, h 1 (by omega), h 2 (by omega), h 3 (by omega), h 4 (by omega), h 5 (by omega), h 6 (by omega), h 7 (by omega), h 8 (by omega), h 9 (by omega), h 10 (by omega), h 11 (by omega), h 12 (by omega), h 13 (by omega), h 14 (by omega), h 15 (by omega), h 16 (by omega), h 17 (by omega)]
  · unfold gM
    rw [if_neg k0, if_neg k0]
end
theorem zC_perm {U V : Type} [Lean.Grind.CommRing U] [Lean.Grind.CommRing V] {cu : U → Nat → FP} {ca : V → Nat → U} {EL : Int → V × V} {md kd : Int} {sA sB : U} {S : zS} (h : zC cu ca EL md kd sA sB S) : ∀ k, k < 194 → S.1 k < 194 := by
  obtain ⟨P, T, h1, -⟩ := h
  exact h1.1
theorem zinJ0 : ∀ w ∈ u_ws RJ0 TJ0 2, w ∈ wsG := by decide +kernel
theorem zinJx : ∀ w ∈ u_ws RJx00060 TJx00060 6, w ∈ wsG := by decide +kernel
theorem zNest_in : zNest.all (fun w => decide (w ∈ lw_tbl) && w.onTables) = true := by decide +kernel
theorem zThr_in : zThr.all (fun w => decide (w ∈ lw_tbl) && w.onTables) = true := by decide +kernel
theorem zLws_in : zLws.all (fun w => decide (w ∈ lw_tbl) && w.onTables) = true := by decide +kernel
theorem zNcl_in : zNcl.all (fun q => decide (Cond.not (.castable q.1 q.2) ∈ flatC (Jvm.Cond.and given_1 narrow_1))) = true := by decide +kernel
theorem zTxt_in : zTxt.all (fun q => decide (Cond.stringRef RX3 q.1 q.2 ∈ lw_tbl) && decide (Cond.exactly (.string RX3 q.1) "java/lang/String" ∈ flatC (Jvm.Cond.and given_1 narrow_1))) = true := by decide +kernel
theorem zk_of {ws : List Cond} (h : ws.all (fun w => decide (w ∈ lw_tbl) && w.onTables) = true) {args : Array Value} {s : State} (hts : ∀ w ∈ lw_tbl, w.before args s = true) : ∀ w ∈ ws, va_Nw w s := fun w hw => by
  have := List.all_eq_true.mp h w hw
  rw [Bool.and_eq_true, decide_eq_true_eq] at this
  exact va_Nw.of this.2 (hts w this.1)
theorem zk_g {w : Cond} (h : w ∈ wsG) : w ∈ lw_tbl := (List.mem_filter.mp h).1
theorem zk_A {s : State} {cA : ClassId} {ty : FieldType} {k : Class} {comp : ClassId} (h1 : s.vm.classes[cA]? = some k) (h2 : k.kind = .array comp ty) : ArrOfT s cA ty := fun N z => ⟨(fun k h => by cases h), k, h1, comp, h2⟩
theorem zk_K {args : Array Value} {s : State} (hts : ∀ w ∈ lw_tbl, w.before args s = true) : ∃ (D : va_G) (cI cO cJ : ClassId), zKs D (zTy3 cI cO cJ) s := by
  have hw : ∀ w ∈ wsG, w.before args s = true := fun w h => hts w (zk_g h)
  obtain ⟨c0, i0, k0⟩ := u_known (C := RJ0) (T := TJ0) (N := 2) (n := 4) hw zinJ0 (hw _ zw241)
  obtain ⟨c1, i1, k1⟩ := u_known (C := RJx00060) (T := TJx00060) (N := 6) (n := 6) hw zinJx (hw _ zw319)
  obtain ⟨c2, i2, k2⟩ := u_known (C := RX0) (T := TX0) (N := 15) (n := 15) hw zinX0 (hw _ zw54)
  obtain ⟨c3, i3, k3⟩ := u_known (C := RX1) (T := TX1) (N := 2) (n := 2) hw zinX1 (hw _ zw25)
  obtain ⟨c4, i4, k4⟩ := u_known (C := RX2) (T := TX2) (N := 1) (n := 1) hw zinX2 (hw _ zw41)
  obtain ⟨c5, i5, k5⟩ := u_known (C := RX3) (T := TX3) (N := 15) (n := 15) hw zinX3 (hw _ zw17)
  obtain ⟨c6, i6, k6⟩ := u_known (C := RX4) (T := TX4) (N := 21) (n := 21) hw zinX4 (hw _ zw665)
  obtain ⟨cI, kI, pI, f1, f2, f3⟩ := Cond.arrayClass_spec (hw _ zw39)
  obtain ⟨cJ, kJ, pJ, g1, g2, g3⟩ := Cond.arrayClass_spec (hw _ zw917)
  obtain ⟨pO, cO, kO, h1, h2, h3, h4, h5⟩ := Cond.arrayOver_spec (n := "TowerFields$Line") (hts (Cond.arrayOver (.object "TowerFields$Line")) (by decide +kernel))
  refine ⟨(fun c => match c with | 0 => c0 | 1 => c1 | 2 => c2 | 3 => c3 | 4 => c4 | 5 => c5 | _ => c6, fun c => match c with | 0 => i0 | 1 => i1 | 2 => i2 | 3 => i3 | 4 => i4 | 5 => i5 | _ => i6), cI, cO, cJ, ⟨fun c q hq => ?_, fun k q hq => ?_⟩, zk_of zNest_in hts⟩
  · match c, hq with
    | 0, hq => cases hq; exact k0
    | 1, hq => cases hq; exact k1
    | 2, hq => cases hq; exact k2
    | 3, hq => cases hq; exact k3
    | 4, hq => cases hq; exact k4
    | 5, hq => cases hq; exact k5
    | 6, hq => cases hq; exact k6
    | n + 7, hq => exact absurd hq (by simp)
  · match k, hq with
    | 0, hq => cases hq; exact ⟨zk_A f2 f3, f1⟩
    | 1, hq => cases hq; exact ⟨zk_A h3 h4, kO, pO, h3, h4, h1, h5⟩
    | 2, hq => cases hq; exact ⟨zk_A g2 g3, g1⟩
    | n + 3, hq => exact absurd hq (by simp)
theorem zk_X {args : Array Value} {s : State} (hts : ∀ w ∈ lw_tbl, w.before args s = true) (hg : (Jvm.Cond.and given_1 narrow_1).before args s = true) {A : Nat → Prop} (hA : ∀ a : Nat, a < s.heap.size → ¬ A a) : (∃ sa, zX A sa s) ∧ zLx s := by
  have hs := flat_of_before _ hg
  have htx : ∀ i : Nat, ∃ a : Nat, ∀ q : Nat × String, zTxt[i]? = some q → vk_R RX3 q.1 q.2 a s := by
    intro i
    cases hq : zTxt[i]? with
    | none => exact ⟨0, fun q h => by cases h⟩
    | some q =>
      have := List.all_eq_true.mp zTxt_in q (List.mem_of_getElem? hq)
      rw [Bool.and_eq_true, decide_eq_true_eq, decide_eq_true_eq] at this
      obtain ⟨a, -, -, -, ha, -⟩ := Cond.exactly_spec (hs _ this.2)
      exact ⟨a, fun q9 h => by cases h; exact vk_R.of (hts _ this.1) ha⟩
  obtain ⟨sa, hsa⟩ := Classical.axiomOfChoice htx
  refine ⟨⟨sa, zk_of zThr_in hts, vx_Zqof (hts _ (by decide +kernel)) (hts _ (zk_g zw6)) (hs _ (by decide +kernel)) hA, vx_Zqof (hts _ (by decide +kernel)) (hts _ (zk_g zw6)) (hs _ (by decide +kernel)) hA, fun i q h => hsa i q h⟩, zk_of zLws_in hts, fun q hq => ?_⟩
  have := List.all_eq_true.mp zNcl_in q hq
  rw [decide_eq_true_eq] at this
  exact va_Nc.of (hs _ this)
section LT
variable {p : Program} {l : Launch} {e : Env} {R : Room} {s : State} {m : MethodId} {args : Array Value} {below : List Frame} {meth : Method} {c : Code} {cc : ByteArray} {nL : Nat} {own : String} {ret : Option FieldType} {D : va_G} {tys : List (ClassId × FieldType)} {N : Nat} {ad : Nat → Nat} {A : Nat → Prop} {cells slots : Nat} {Q : State → Prop} {pc : Nat} {lv : List (Nat × Value)} {st : List Value} {g : Nat → va_E}
theorem z_tin (X : zCx p s m args meth c cc nL own ret D tys N ad A) {dflt lo hi : Int} {offs : Array Int} {len : Nat} {x : Int32} {off : Int} {tgt : Nat} (hd : decode cc pc = .ok (.tableswitch dflt lo hi offs, len)) (h1 : ¬ x.toInt < lo) (h2 : ¬ hi < x.toInt) (ho : offs[(x.toInt - lo).toNat]? = some off) (ht : (pc : Int) + off = (tgt : Int)) (k : Z p l e R s m args below meth c nL D N ad A cells slots Q tgt lv st g) : Z p l e R s m args below meth c nL D N ad A cells slots Q pc lv (.int x :: st) g := fun H locs ls hl hP hS => lv_tableIn (zx_e X) (zx_b X) hd h1 h2 ho ht (k H locs ls hl hP hS)
theorem z_tout (X : zCx p s m args meth c cc nL own ret D tys N ad A) {dflt lo hi : Int} {offs : Array Int} {len : Nat} {x : Int32} {tgt : Nat} (hd : decode cc pc = .ok (.tableswitch dflt lo hi offs, len)) (h : x.toInt < lo ∨ hi < x.toInt) (ht : (pc : Int) + dflt = (tgt : Int)) (k : Z p l e R s m args below meth c nL D N ad A cells slots Q tgt lv st g) : Z p l e R s m args below meth c nL D N ad A cells slots Q pc lv (.int x :: st) g := fun H locs ls hl hP hS => lv_tableOut (zx_e X) (zx_b X) hd h ht (k H locs ls hl hP hS)
end LT
set_option maxHeartbeats 1000000 in
theorem lw_loop {U V : Type} [Lean.Grind.CommRing U] [Lean.Grind.CommRing V] {cu : U → Nat → FP} {ca : V → Nat → U} (HU : mp_P cu) (HA : mp_P ca) {p : Program} {l : Launch} (hl9 : l.stackTraces = false) {e : Env} {s : State} {m : MethodId} {below : List Frame} {meth : Method} {c : Code} {D : va_G} {ad sa : Nat → Nat} {cI cO cJ : ClassId} {b L : Nat} {xs : Nat → Int32} (X : zCx p s m #[Value.ref b] meth c cL_law 7 RL (some .boolean) D (zTy3 cI cO cJ) 438 ad (fun q => s.heap.size ≤ q)) (XX : zX (fun q => s.heap.size ≤ q) sa s) (XL : zLx s) (hX : va_X b L xs s s.heap) (hbl : b < s.heap.size) (hL : L ≤ 320) : ∀ (d : Nat) (i : Int), 0 ≤ i → i + 5 * d = 320 → ∀ (cells slots : Nat) (S : zS) (M : zM) (f : Nat → Int64), cells + 4 * d ≤ 600384 → slots + 24 * d ≤ 7290858 → zAg cu ca S M → Z p l e room_1 s m #[Value.ref b] below meth c 7 D 438 ad (fun q => s.heap.size ≤ q) cells slots (lw_Z below #[Value.ref b] s) 23 [(4, .int (iZ i)), (3, .ref (ad 437)), (2, .ref (ad 419)), (1, .ref (ad 0)), (0, .ref b)] [] (gL ad cI cO cJ S M f) := by
  have hbA : ¬ s.heap.size ≤ b := by omega
  have fin : ∀ {cells slots : Nat} {lv : List (Nat × Value)} {g : Nat → va_E}, cells ≤ 600384 → slots ≤ 7290858 → Z p l e room_1 s m #[Value.ref b] below meth c 7 D 438 ad (fun q => s.heap.size ≤ q) cells slots (lw_Z below #[Value.ref b] s) 1240 lv [] g := by
    intro cells slots lv g h1 h2
    refine z_iconst X (n := 1) dL_law_1240 ?_
    intro H locs ls hl hP hS
    exact va_forget hS.2.2 (W.widen h1 h2 (lw_ret (zx_e X) (zx_b X) (zx_r X) (zx_l X) dL_law_1241))
  intro d
  induction d with
  | zero =>
    intro i i0 hi cells slots S M f hc hs hA
    refine z_iload X 0 rfl dL_law_23 ?_
    refine z_aload_n X 4 rfl rfl dL_law_25 ?_
    refine z_slen X hX hbl hbA dL_law_26 ?_
    refine z_iconst X (n := 5) dL_law_27 ?_
    refine z_isub X dL_law_28 ?_
    refine z_icmp_gt X (tgt := 1240) (by omega) (by omega) dL_law_29 (by decide) (fun _ => ?_) (fun h => absurd h (by omega))
    exact fin (by omega) (by omega)
  | succ d ih =>
    intro i i0 hi cells slots S M f hc hs hA
    refine z_iload X 0 rfl dL_law_23 ?_
    refine z_aload_n X 4 rfl rfl dL_law_25 ?_
    refine z_slen X hX hbl hbA dL_law_26 ?_
    refine z_iconst X (n := 5) dL_law_27 ?_
    refine z_isub X dL_law_28 ?_
    refine z_icmp_gt X (tgt := 1240) (by omega) (by omega) dL_law_29 (by decide) (fun _ => ?_) (fun h29 => ?_)
    · exact fin (by omega) (by omega)
    · have iL : i + 5 ≤ L := by omega
      have hR : cells + 4 ≤ room_1.cells ∧ slots + 24 ≤ room_1.slots ∧ 12 ≤ room_1.frames ∧ 1000 ≤ room_1.locals := ⟨by show cells + 4 ≤ 600384; omega, by show slots + 24 ≤ 7290858; omega, by decide, by decide⟩
      have nxt : ∀ (S9 : zS) (M9 : zM) (f9 : Nat → Int64) (cells9 slots9 : Nat), zAg cu ca S9 M9 → cells9 ≤ cells + 4 → slots9 ≤ slots + 24 → Z p l e room_1 s m #[Value.ref b] below meth c 7 D 438 ad (fun q => s.heap.size ≤ q) cells9 slots9 (lw_Z below #[Value.ref b] s) 1234 [(4, .int (iZ i)), (3, .ref (ad 437)), (2, .ref (ad 419)), (1, .ref (ad 0)), (0, .ref b)] [] (gL ad cI cO cJ S9 M9 f9) := by
        intro S9 M9 f9 cells9 slots9 hA9 h1 h2
        refine z_iinc X [(4, .int (iZ (i + 5))), (3, .ref (ad 437)), (2, .ref (ad 419)), (1, .ref (ad 0)), (0, .ref b)] 0 rfl rfl (by decide) dL_law_1234 ?_
        refine z_goto X (tgt := 23) dL_law_1237 (by decide) ?_
        exact ih (i + 5) (by omega) (by omega) _ _ S9 M9 f9 (by omega) (by omega) hA9
      refine z_aload_n X 4 rfl rfl dL_law_32 ?_
      refine z_iload X 0 rfl dL_law_33 ?_
      refine z_sld X hX hbl hbA i0 (by omega) hL dL_law_35 ?_
      refine z_bipush X (n := 31) (by decide) dL_law_36 ?_
      refine z_iandq X dL_law_38 ?_
      generalize (iZ (xs i.toNat).toInt &&& iZ 31) = y
      by_cases hout : y.toInt < 0 ∨ 16 < y.toInt
      · exact z_tout X dL_law_39 hout (tgt := 1234) (by decide) (nxt S M f _ _ hA (by omega) (by omega))
      by_cases hk : y.toInt = 0
      · exact z_tin X (tgt := 120) dL_law_39 (by omega) (by omega) (by rw [hk]; rfl) (by decide) (a_number HU HA hl9 X XX XL hX hbl hbA hL i0 iL hR hA nxt)
      by_cases hk : y.toInt = 1
      · exact z_tin X (tgt := 252) dL_law_39 (by omega) (by omega) (by rw [hk]; rfl) (by decide) (a_base HU HA hl9 X XX XL hX hbl hbA hL i0 iL hR hA nxt)
      by_cases hk : y.toInt = 2
      · exact z_tin X (tgt := 296) dL_law_39 (by omega) (by omega) (by rw [hk]; rfl) (by decide) (a_letter HU HA hl9 X XX XL hX hbl hbA hL i0 iL hR hA nxt)
      by_cases hk : y.toInt = 3
      · exact z_tin X (tgt := 364) dL_law_39 (by omega) (by omega) (by rw [hk]; rfl) (by decide) (a_top HU HA hl9 X XX XL hX hbl hbA hL i0 iL hR hA nxt)
      by_cases hk : y.toInt = 4
      · exact z_tin X (tgt := 408) dL_law_39 (by omega) (by omega) (by rw [hk]; rfl) (by decide) (a_add HU HA hl9 X XX XL hX hbl hbA hL i0 iL hR hA nxt)
      by_cases hk : y.toInt = 5
      · exact z_tin X (tgt := 476) dL_law_39 (by omega) (by omega) (by rw [hk]; rfl) (by decide) (a_less HU HA hl9 X XX XL hX hbl hbA hL i0 iL hR hA nxt)
      by_cases hk : y.toInt = 6
      · exact z_tin X (tgt := 544) dL_law_39 (by omega) (by omega) (by rw [hk]; rfl) (by decide) (a_times HU HA hl9 X XX XL hX hbl hbA hL i0 iL hR hA nxt)
      by_cases hk : y.toInt = 7
      · exact z_tin X (tgt := 612) dL_law_39 (by omega) (by omega) (by rw [hk]; rfl) (by decide) (a_over HU HA hl9 X XX XL hX hbl hbA hL i0 iL hR hA nxt)
      by_cases hk : y.toInt = 8
      · exact z_tin X (tgt := 680) dL_law_39 (by omega) (by omega) (by rw [hk]; rfl) (by decide) (a_derive HU HA hl9 X XX XL hX hbl hbA hL i0 iL hR hA nxt)
      by_cases hk : y.toInt = 9
      · exact z_tin X (tgt := 736) dL_law_39 (by omega) (by omega) (by rw [hk]; rfl) (by decide) (a_logarithmic HU HA hl9 X XX XL hX hbl hbA hL i0 iL hR hA nxt)
      by_cases hk : y.toInt = 10
      · exact z_tin X (tgt := 792) dL_law_39 (by omega) (by omega) (by rw [hk]; rfl) (by decide) (a_part HU HA hl9 X XX XL hX hbl hbA hL i0 iL hR hA nxt)
      by_cases hk : y.toInt = 11
      · exact z_tin X (tgt := 860) dL_law_39 (by omega) (by omega) (by rw [hk]; rfl) (by decide) (a_common HU HA hl9 X XX XL hX hbl hbA hL i0 iL hR hA nxt)
      by_cases hk : y.toInt = 12
      · exact z_tin X (tgt := 928) dL_law_39 (by omega) (by omega) (by rw [hk]; rfl) (by decide) (a_same HU HA hl9 X XX XL hX hbl hbA hL i0 iL hR hA nxt)
      by_cases hk : y.toInt = 13
      · exact z_tin X (tgt := 1003) dL_law_39 (by omega) (by omega) (by rw [hk]; rfl) (by decide) (a_constant HU HA hl9 X XX XL hX hbl hbA hL i0 iL hR hA nxt)
      by_cases hk : y.toInt = 14
      · exact z_tin X (tgt := 1066) dL_law_39 (by omega) (by omega) (by rw [hk]; rfl) (by decide) (a_low HU HA hl9 X XX XL hX hbl hbA hL i0 iL hR hA nxt)
      by_cases hk : y.toInt = 15
      · exact z_tin X (tgt := 1129) dL_law_39 (by omega) (by omega) (by rw [hk]; rfl) (by decide) (a_at HU HA hl9 X XX XL hX hbl hbA hL i0 iL hR hA nxt)
      by_cases hk : y.toInt = 16
      · exact z_tin X (tgt := 1221) dL_law_39 (by omega) (by omega) (by rw [hk]; rfl) (by decide) (a_count HU HA hl9 X XX XL hX hbl hbA hL i0 iL hR hA nxt)
      omega
theorem whole_flags {l : Launch} (h : l.flags = flags0) : l.stackTraces = false := by
  rw [Launch.stackTraces, h]
  decide +kernel
theorem whole_start {p : Program} {e : Env} {s : State} {m : MethodId} {below : List Frame} {meth : Method} {c : Code} (l : Launch) (hflags : l.flags = flags0) {b L : Nat} {xs : Nat → Int32} (hL : L ≤ 320) (C0 : lw_At p s m meth c b L xs) : W p l e room_1 s m #[Value.ref b] below meth c s.heap [] 0 0 (lw_Z below #[Value.ref b] s) (entryFrame m ([Value.ref b] : List Value).toArray 7) := by
  obtain ⟨hx, hb, hr, hml, hown, hts, hX, hbl, hlk, hg⟩ := C0
  have hl9 := whole_flags hflags
  obtain ⟨U, instU, cu, HU⟩ := mr_ex FP
  obtain ⟨V, instV, ca, HA⟩ := mr_ex U
  obtain ⟨D, cI, cO, cJ, hK⟩ := zk_K hts
  obtain ⟨⟨sa, XX⟩, XL⟩ := zk_X hts hg (A := fun q => s.heap.size ≤ q) (fun a h1 h2 => absurd h2 (Nat.not_le.mpr h1))
  have hO : va_AO RX1 s := va_AO.of (hts (Cond.arrayOver (.object "TowerFields$Line")) (by decide +kernel))
  have X0 : zCx p s m #[Value.ref b] meth c cL_law 7 RL (some .boolean) D (zTy3 cI cO cJ) 0 (fun _ => 0) (fun q => s.heap.size ≤ q) := ⟨hx, hb, hml, hown, fun w hw => hts w (zk_g hw), hK, fun i j hi _ _ => absurd hi (by omega), fun k hk => absurd hk (by omega), fun q hq => hq, hr, hlk⟩
  have main : Z p l e room_1 s m #[Value.ref b] below meth c 7 D 0 (fun _ => 0) (fun q => s.heap.size ≤ q) 0 0 (lw_Z below #[Value.ref b] s) 0 (lv_args 0 [.ref b]) [] (fun _ => .inl (cI, 0, .inl (fun _ => 0))) := by
    refine z_lvq (lv9 := [(0, .ref b)]) rfl ?_
    refine z_new X0 (C := RX3) (T := TX3) (NF := 15) (ci := 5) zinX3 tyX3 tyX3_ok rfl (fs := [.null, .int 0, .int 0, .null, .null, .null, .null, .null, .null, .null, .null, .null, .null, .null, .null]) (by decide +kernel) zw16 zw17 zw1 (by decide) (by decide) dL_law_0 (fun q1 X1 => ?_)
    refine z_dup X1 rfl dL_law_3 ?_
    refine z_callC X1 hO zm_X3_init rfl zw19 zw18 ⟨by decide, by decide, by decide, by decide⟩ (zMc_tys (c_X3_init HU HA l) (fun i q hq => by
      rcases (by have := (List.getElem?_eq_some_iff.mp hq).1; simp at this; omega : i = 0 ∨ i = 1) with rfl | rfl
      · exact hq
      · exact hq)) (Nat.le_of_ble_eq_true rfl) dL_law_4 (fun S α hα hS X2 => ?_)
    have hC := hS (fun _ => (0, 1))
    have eα : zg 0 (fun _ : Nat => 0) α = α := funext (fun k => zg_r (Nat.zero_le k))
    rw [eα] at X2 ⊢
    refine z_cong9 (N9 := 419) (cells9 := 419) (slots9 := 22462) (ad9 := α) (g9 := gC α cI cO S) rfl rfl rfl (fun _ _ => rfl) (fun k _ => (zg_r (Nat.zero_le k)).symm) ?_
    have X3 : zCx p s m #[Value.ref b] meth c cL_law 7 RL (some .boolean) D (zTy3 cI cO cJ) 419 α (fun q => s.heap.size ≤ q) := X2
    refine z_astore_n X3 [(1, .ref q1), (0, .ref b)] rfl rfl (by decide) dL_law_7 ?_
    refine z_new X3 (C := RX4) (T := TX4) (NF := 21) (ci := 6) zinX4 tyX4 tyX4_ok rfl (fs := [.int 0, .int 0, .null, .null, .int 0, .null, .null, .null, .null, .null, .null, .null, .null, .null, .int 0, .null, .null, .null, .null, .null, .null]) (by decide +kernel) zw664 zw665 zw5 (by decide) (by decide) dL_law_8 (fun q2 X4 => ?_)
    refine z_dup X4 rfl dL_law_11 ?_
    refine z_callC X4 hO zm_X4_init rfl zw667 zw666 ⟨by decide, by decide, by decide, by decide⟩ (c_X4_init l rfl) (Nat.le_of_ble_eq_true rfl) dL_law_12 (fun _ β hβ _ X5 => ?_)
    refine z_astore_n X5 [(2, .ref q2), (1, .ref q1), (0, .ref b)] rfl rfl (by decide) dL_law_15 ?_
    refine z_iconst X5 (n := 1) dL_law_16 ?_
    refine z_newL X5 2 rfl (n := 1) (n9 := 1) (by omega) (by omega) rfl (by decide) (by decide) (by decide) dL_law_17 (fun q3 X6 => ?_)
    have a1 : ∀ k, k < 419 → zg (419 + 18) (zg 419 α β) (fun _ => q3) k = α k := fun k hk => by rw [zg_l (by omega), zg_l hk]
    have a2 : ∀ k, k < 18 → zg (419 + 18) (zg 419 α β) (fun _ => q3) (419 + k) = β k := fun k hk => by rw [zg_l (by omega), zg_r (by omega), Nat.add_sub_cancel_left]
    have a3 : zg (419 + 18) (zg 419 α β) (fun _ => q3) 437 = q3 := zg_r (by omega)
    have X7 : zCx p s m #[Value.ref b] meth c cL_law 7 RL (some .boolean) D (zTy3 cI cO cJ) 438 (zg (419 + 18) (zg 419 α β) (fun _ => q3)) (fun q => s.heap.size ≤ q) := X6
    refine z_cong9 (N9 := 438) (cells9 := 438) (slots9 := 139964) (ad9 := zg (419 + 18) (zg 419 α β) (fun _ => q3)) (g9 := gL (zg (419 + 18) (zg 419 α β) (fun _ => q3)) cI cO cJ S zM0 (fun _ => 0)) rfl rfl rfl (fun _ _ => rfl) (fun k hk => ?_) ?_
    · by_cases h1 : k < 419
      · rw [gL_C h1, zg_l (by omega), zg_l h1]
        exact gC_cong (fun t ht => a1 t ht) (zC_perm hC) h1
      · by_cases h2 : k < 437
        · rw [show k = 419 + (k - 419) by omega, gL_M (by omega), zg_l (by omega), zg_r (by omega), Nat.add_sub_cancel_left]
          exact gM_cong (fun t ht => a2 t ht) (by omega)
        · rw [show k = 437 by omega, gL_f, zg_r (by omega)]
    have e1 : q1 = zg (419 + 18) (zg 419 α β) (fun _ => q3) 0 := by rw [a1 0 (by omega), hα]
    have e2 : q2 = zg (419 + 18) (zg 419 α β) (fun _ => q3) 419 := by
      have := a2 0 (by omega)
      rw [Nat.add_zero] at this
      rw [this, hβ]
    clear X1 X2 X3 X4 X5 X6 hα hβ
    generalize zg (419 + 18) (zg 419 α β) (fun _ => q3) = ad at X7 e1 e2 a3 ⊢
    subst e1
    subst e2
    subst a3
    refine z_astore_n X7 [(3, .ref (ad 437)), (2, .ref (ad 419)), (1, .ref (ad 0)), (0, .ref b)] rfl rfl (by decide) dL_law_19 ?_
    refine z_iconst X7 (n := 0) dL_law_20 ?_
    refine z_istore X7 [(4, .int (iZ 0)), (3, .ref (ad 437)), (2, .ref (ad 419)), (1, .ref (ad 0)), (0, .ref b)] rfl (by decide) dL_law_21 ?_
    exact lw_loop HU HA hl9 X7 XX XL hX hbl hL 64 0 (by omega) (by omega) _ _ S zM0 (fun _ => 0) (by omega) (by omega) ⟨_, 0, 0, 0, 1, 0, 0, 0, hC, zM0_at HU HA _ 0 0, fun _ => ⟨rfl, rfl, fun n h1 h2 => by omega⟩, fun h => (mp_dom HU (mp_Fd_nz mp_FP)).2 h, fun h => absurd rfl h, fun h => absurd rfl h⟩
  rw [lg_entry_eq]
  exact main s.heap [] _ (lv_entry [.ref b] (Nat.le_of_ble_eq_true rfl)) (fun k q h => by simp [z_w] at h) va_S.rf
set_option maxHeartbeats 4000000 in
theorem lw_walk (l : Launch) (hflags : l.flags = flags0) (b : Addr) (xs : List Int32) : MetFree l x (headSpec (Jvm.Cond.code x code maxLocals ret :: tables_1) room_1) (lw_P b xs) (fun _ _ _ _ _ => True) lw_Q := by
  refine MetFree.of_bodyS (code := code) (maxLocals := maxLocals) (ret := ret) (by decide) ?_ ?_
  · intro args s m h hn
    obtain ⟨meth, c, h1, h2, h3, h4, h5, h6, -, -⟩ := Cond.code_spec hn (atoms_spec (ws := Jvm.Cond.code x code maxLocals ret :: tables_1) h _ List.mem_cons_self)
    exact ⟨meth, c, h1, h2, h3, h4, h5, h6⟩
  · intro p e s m args below meth c s₁ B hml0 hP _
    obtain ⟨rfl, hx, hbd, hgv⟩ := hP
    obtain ⟨scr, harrAt, hlist, hof, hsmall⟩ := hx
    obtain ⟨hcb, hkn, -, -⟩ := State.arrayAt?_spec harrAt
    have hown : s.vm.findClass R_law = some m.cls := findClass_of_methodNamed B.named
    have hts0 : ∀ c ∈ (Jvm.Cond.code x code maxLocals ret :: tables_1), c.before #[Value.ref b] s = true := atoms_spec (ws := Jvm.Cond.code x code maxLocals ret :: tables_1) B.pre
    have hts : ∀ w ∈ lw_tbl, w.before #[Value.ref b] s = true := k2_hts_sels lw_privs (fun w hw => hts0 w (List.mem_cons_of_mem _ hw)) lw_privs_ok
    have hml : c.maxLocals = 7 := B.maxLocals_eq (hts0 _ List.mem_cons_self)
    have X₀ : Stand p l e room_1 s m #[Value.ref b] below meth c s₁ [] 0 0 := Stand.of_body B
    have hh0 : s₁.heap = s.heap := by rw [B.state]; rfl
    have hsz : scr.slots.size = xs.length := by rw [← Array.length_toList, hlist, List.length_map]
    have hval : ∀ j : Nat, j < xs.length → scr.slots[j]? = some (.int (xs.getD j 0)) := fun j hj => by
      rw [← Array.getElem?_toList, hlist]
      simp [hj]
    have hbl : b < s.heap.size := (Array.getElem?_eq_some_iff.mp hcb).1
    have hX : va_X b xs.length (fun j => xs.getD j 0) s s.heap := ⟨scr, hcb, hof, hkn, hsz, hval⟩
    have K : W p l e room_1 s m #[Value.ref b] below meth c s₁.heap [] 0 0 (lw_Z below #[Value.ref b] s) (entryFrame m ([Value.ref b] : List Value).toArray 7) := by
      rw [hh0]
      exact whole_start l hflags hbd ⟨B.exec, B.bytes, B.returns, hml, hown, hts, hX, hbl, B.notSynchronized, hgv⟩
    obtain ⟨t, a1, o, b1, b2, b3⟩ := K s₁ rfl X₀
    exact ⟨t, o, a1, b1, b2, b3⟩
theorem lw_pre_spec {args : Array Value} {s : State} (h : (Jvm.Cond.and given_1 narrow_1).before args s = true) (hr : rest_1_c.before args s = true) : ∃ (b : Addr) (xs : List Int32), lw_P b xs args s := by
  have hs := flat_of_before _ h
  have hq := flat_of_before _ hr
  have hc : (Cond.count 1).before args s = true := hs _ (by decide +kernel)
  have harr : (Cond.arrayOf (.arg 0) .int).before args s = true := hs _ (by decide +kernel)
  have hle : (Cond.le (.length (.arg 0)) (.int 320)).before args s = true := hs _ (by decide +kernel)
  have hlen : (Cond.isInt (.length (.arg 0))).before args s = true := hq _ (by decide +kernel)
  have hall : (Cond.all (.arg 0) (.isInt (.elem (.arg 0) (.index 0)))).before args s = true := hq _ (by decide +kernel)
  obtain ⟨b, xs, hb, hx⟩ := State.ints_of_pre rfl harr hlen hall
  have hsm : xs.length < 2 ^ 31 := hx.choose_spec.2.2.2
  have hev : (Term.length (.arg 0)).eval args s none [] s = some (.int xs.length.toInt32) := hx.length_eval hb
  have hv := Cond.le_ints hev (show (Term.int 320).eval args s none [] s = some (.int 320) from rfl)
  have hd : xs.length.toInt32 ≤ 320 := by
    simpa [Cond.before, Cond.holds, hv] using hle
  have hN : xs.length ≤ 320 := (Int32.ofNat_le_ofNat hsm (by decide)).mp (show Int32.ofNat xs.length ≤ Int32.ofNat 320 from hd)
  exact ⟨b, xs, Cond.one_arg hc (show args[0]? = some (.ref b) from hb), hx, hN, h⟩
theorem lw_comes (l : Launch) (hflags : l.flags = flags0) : Comes l x (Jvm.Cond.code x code maxLocals ret :: tables_1) room_1 (fun tb e args s => Calls_1 tb e args s ∧ rest_1 tb e args s ∧ Pre_1 tb e args s)
    (fun _ _ args s o t => lw_Q args s o t) := by
  intro p e ha hc hk s m args below hf hfit hheap happ hpre
  obtain ⟨b, xs, hP⟩ := lw_pre_spec hpre.2.2 hpre.2.1
  obtain ⟨k, o, h1, h2, h3, hQ⟩ := lw_walk l hflags b xs p e ha hc hk s m args below hf ((Spec.applies_iff_loose hf).mp happ).1 hP trivial
  exact ⟨k, o, h1, h2, h3, hQ⟩
theorem lw_frame {s t : State} {o : Outcome} {args : Array Value} (h : Framed s o t [] 600384 7290858) :
    Framed s o t (fieldLocs frame_1_writes args s ++ arrayLocs frame_1_arrays args s ++ staticLocs frame_1_statics s) 600384 7290858 := h
theorem lw_limb (L : Cond) (hL : ∀ (args : Array Value) (s t : State), L.after args s (.returned (some (.int 1))) t = true) :
    ArmFor flags0 classFile x code maxLocals ret World_1 tables_1 room_1 Calls_1 rest_1 Pre_1
      (fun tb e a s o t => postC L tb e a s o t ∧ Framed s o t (fieldLocs frame_1_writes a s ++ arrayLocs frame_1_arrays a s ++ staticLocs frame_1_statics s) 600384 7290858) := by
  intro l hflags _ _ p e ha hc hk s m args below hf hfit hheap happ hpre
  obtain ⟨k, o, h1, h2, h3, rfl, hF⟩ := lw_comes l hflags p e ha hc hk s m args below hf hfit hheap happ hpre
  exact ⟨k, _, h1, h2, h3, hL args s _, lw_frame hF⟩
theorem i_vc : Claimed_1_1 ∧ Claimed_1_2 := ⟨lw_limb limb_1_1 (fun args s t => by simp [limb_1_1, Cond.after, Cond.holds, Cond.value]), lw_limb limb_1_2 (fun args s t => Cond.after_iff.mpr (by
  first | (rw [show limb_1_2 = Cond.eq .result (.int 1) from rfl, Cond.eq_ints (x := 1) (y := 1) rfl rfl]; simp; done) | (simp [limb_1_2, Cond.value, Term.eval]; done)))⟩
