/-! the reference's world: its object and its arrays -/
abbrev zM : Type := (Nat → Nat → FP) × (Nat → Nat) × Int × Int × Int × Int
def zLn (k : Nat) : Nat := if k ≤ 2 then 5880 else if k = 12 then 98 else if k = 13 then 86240 else if k = 14 then 9604 else if k = 16 then 98 else 880
def gM (ad : Nat → Nat) (cI : ClassId) (M : zM) (k : Nat) : va_E :=
  if k = 0 then .inr (6, [.int (iZ M.2.2.1), .int (iZ M.2.2.2.1), .ref (ad 1), .ref (ad 2), .int (iZ M.2.2.2.2.1), .ref (ad 3), .ref (ad 4), .ref (ad 5), .ref (ad 6), .ref (ad 7), .ref (ad 8), .ref (ad 9), .ref (ad 10), .ref (ad 11), .int (iZ M.2.2.2.2.2), .ref (ad 12), .ref (ad 13), .ref (ad 14), .ref (ad 15), .ref (ad 16), .ref (ad 17)])
  else if k = 12 then .inl (cI, 98, .inl (fun j => iZ ((M.2.1 j : Nat) : Int)))
  else .inl (cI, zLn k, .inl (fun j => iZ (vz (M.1 k j))))
def fa (M : zM) (x : Nat) (f : Nat → FP) : zM := (va_up M.1 x f, M.2)
def fp (M : zM) (f : Nat → Nat) : zM := (M.1, f, M.2.2)
def fcode (M : zM) (z : Int) : zM := (M.1, M.2.1, z, M.2.2.2)
def fmany (M : zM) (z : Int) : zM := (M.1, M.2.1, M.2.2.1, z, M.2.2.2.2)
def fkind (M : zM) (z : Int) : zM := (M.1, M.2.1, M.2.2.1, M.2.2.2.1, z, M.2.2.2.2.2)
def fcols (M : zM) (z : Int) : zM := (M.1, M.2.1, M.2.2.1, M.2.2.2.1, M.2.2.2.2.1, z)
abbrev zTyM (cI : ClassId) : List (ClassId × FieldType) := [(cI, .int)]
/-- the arrays of 880 -/
def zA (x : Nat) : Prop := (3 ≤ x ∧ x ≤ 11) ∨ x = 15 ∨ x = 17
theorem zA_o {x : Nat} (h : zA x) : 0 < x ∧ x < 18 ∧ x ≠ 12 := by unfold zA at h; omega
theorem zA_n {x : Nat} (h : zA x) : zLn x = 880 := by
  unfold zA at h
  unfold zLn
  rw [if_neg (by omega), if_neg (by omega), if_neg (by omega), if_neg (by omega), if_neg (by omega)]
theorem zLn_lt (x : Nat) : zLn x < 2147483648 := by
  unfold zLn
  repeat' split
  all_goals omega
theorem vz_lo (x : FP) : -2147483648 ≤ vz x := by have := vz_nn x; omega
theorem vz_hi (x : FP) : vz x < 2147483648 := by have := vz_lt x; omega
section
variable {ad : Nat → Nat} {cI : ClassId} {M : zM}
theorem gM_O : gM ad cI M 0 = .inr (6, [.int (iZ M.2.2.1), .int (iZ M.2.2.2.1), .ref (ad 1), .ref (ad 2), .int (iZ M.2.2.2.2.1), .ref (ad 3), .ref (ad 4), .ref (ad 5), .ref (ad 6), .ref (ad 7), .ref (ad 8), .ref (ad 9), .ref (ad 10), .ref (ad 11), .int (iZ M.2.2.2.2.2), .ref (ad 12), .ref (ad 13), .ref (ad 14), .ref (ad 15), .ref (ad 16), .ref (ad 17)]) := if_pos rfl
theorem gM_V : gM ad cI M 12 = .inl (cI, 98, .inl (fun j => iZ ((M.2.1 j : Nat) : Int))) := by rw [gM, if_neg (by omega), if_pos rfl]
theorem gM_A {x : Nat} (h : 0 < x ∧ x < 18 ∧ x ≠ 12) : gM ad cI M x = .inl (cI, zLn x, .inl (fun j => iZ (vz (M.1 x j)))) := by rw [gM, if_neg (by omega), if_neg (by omega)]
theorem gM_fa {x : Nat} (h : 0 < x ∧ x < 18 ∧ x ≠ 12) (f : Nat → FP) : va_up (gM ad cI M) x (.inl (cI, zLn x, .inl (fun j => iZ (vz (f j))))) = gM ad cI (fa M x f) := by
  funext k
  by_cases e : k = x
  · subst e
    rw [va_up_self, gM_A h]
    simp only [fa, va_up_self]
  · rw [va_up_ne _ _ e]
    unfold gM
    simp only [fa, va_up_ne _ _ e]
theorem gM_fp (f : Nat → Nat) : va_up (gM ad cI M) 12 (.inl (cI, 98, .inl (fun j => iZ ((f j : Nat) : Int)))) = gM ad cI (fp M f) := by
  funext k
  by_cases e : k = 12
  · subst e
    rw [va_up_self, gM_V]; rfl
  · rw [va_up_ne _ _ e]
    unfold gM
    rw [if_neg e, if_neg e]; rfl
theorem gM_ob (M9 : zM) (h1 : M9.1 = M.1) (h2 : M9.2.1 = M.2.1) (v : va_E) (hv : v = gM ad cI M9 0) : va_up (gM ad cI M) 0 v = gM ad cI M9 := by
  funext k
  by_cases e : k = 0
  · subst e; rw [va_up_self, hv]
  · rw [va_up_ne _ _ e]
    unfold gM
    rw [if_neg e, if_neg e, h1, h2]
theorem fa_at (M : zM) (x : Nat) (f : Nat → FP) : (fa M x f).1 x = f := va_up_self _ _ _
theorem fa_ne (M : zM) {x y : Nat} (f : Nat → FP) (h : y ≠ x) : (fa M x f).1 y = M.1 y := va_up_ne _ _ h
theorem fa_st (M : zM) (x : Nat) (f : Nat → FP) (i : Nat) (v : FP) : fa (fa M x f) x (va_up ((fa M x f).1 x) i v) = fa M x (va_up f i v) := by
  rw [fa_at]
  unfold fa
  refine Prod.ext (funext fun k => ?_) rfl
  by_cases e : k = x
  · rw [e]; simp only [va_up_self]
  · simp only [va_up_ne _ _ e]
theorem fa_st2 (M : zM) {x y : Nat} (f g : Nat → FP) (i : Nat) (v : FP) (h : x ≠ y) : fa (fa (fa M x f) y g) x (va_up ((fa (fa M x f) y g).1 x) i v) = fa (fa M x (va_up f i v)) y g := by
  rw [fa_ne _ _ h, fa_at]
  unfold fa
  refine Prod.ext (funext fun k => ?_) rfl
  by_cases e : k = y
  · subst e
    simp only [va_up_self, va_up_ne _ _ (fun q => h q.symm)]
  · by_cases e2 : k = x
    · rw [e2]; simp only [va_up_self, va_up_ne _ _ h]
    · simp only [va_up_ne _ _ e, va_up_ne _ _ e2]
theorem fa_self (M : zM) (x : Nat) : fa M x (M.1 x) = M := by
  unfold fa
  refine Prod.ext (funext fun k => ?_) rfl
  by_cases e : k = x
  · rw [e]; simp only [va_up_self]
  · simp only [va_up_ne _ _ e]
theorem fa_self2 (M : zM) {x y : Nat} (h : x ≠ y) : fa (fa M x (M.1 x)) y (M.1 y) = M := by rw [fa_self, fa_self]
theorem zl_updp (f : Nat → Nat) (i v : Nat) : upd (fun j => iZ ((f j : Nat) : Int)) i (iZ ((v : Nat) : Int)) = fun j => iZ ((va_up f i v j : Nat) : Int) := by
  funext j
  by_cases e : j = i
  · simp [upd, va_up, e]
  · simp [upd, va_up, e]
end
section ZNR
variable {p : Program} {l : Launch} {e : Env} {R : Room} {s : State} {m : MethodId} {args : Array Value} {below : List Frame} {meth : Method} {c : Code} {cc : ByteArray} {nL : Nat} {own : String} {ret : Option FieldType} {D : va_G} {ad : Nat → Nat} {cI : ClassId} {A : Nat → Prop} {cells slots : Nat} {Q : State → Prop} {pc : Nat} {lv : List (Nat × Value)} {st : List Value} {M : zM}
theorem zn_ld (X : zCx p s m args meth c cc nL own ret D (zTyM cI) 18 ad A) {x : Nat} (hx : 0 < x ∧ x < 18 ∧ x ≠ 12) (n : Nat) (hn : zLn x = n) {i : Int} (h0 : 0 ≤ i) (h1 : i < n) (v : FP) (hv : M.1 x i.toNat = v) (hd : decode cc pc = .ok (.iaload, 1)) (kk : Z p l e R s m args below meth c nL D 18 ad A cells slots Q (pc + 1) lv (.int (iZ (vz v)) :: st) (gM ad cI M)) : Z p l e R s m args below meth c nL D 18 ad A cells slots Q pc lv (.int (iZ i) :: .ref (ad x) :: st) (gM ad cI M) :=
  z_iald X x 0 hx.2.1 (gM_A hx) rfl h0 (by rw [hn]; exact h1) (zLn_lt x) hd (by rw [hv]; exact kk)
theorem zn_st (X : zCx p s m args meth c cc nL own ret D (zTyM cI) 18 ad A) {x : Nat} (hx : 0 < x ∧ x < 18 ∧ x ≠ 12) (n : Nat) (hn : zLn x = n) {i z : Int} (h0 : 0 ≤ i) (h1 : i < n) (v : FP) (hz : z = vz v) (M9 : zM) (hM : fa M x (va_up (M.1 x) i.toNat v) = M9) (hd : decode cc pc = .ok (.iastore, 1)) (kk : Z p l e R s m args below meth c nL D 18 ad A cells slots Q (pc + 1) lv st (gM ad cI M9)) : Z p l e R s m args below meth c nL D 18 ad A cells slots Q pc lv (.int (iZ z) :: .int (iZ i) :: .ref (ad x) :: st) (gM ad cI M) := by
  subst hz
  refine z_iast X x 0 hx.2.1 (gM_A hx) rfl h0 (by rw [hn]; exact h1) (zLn_lt x) hd (z_eqg ?_ kk)
  rw [zl_upd, gM_fa hx, hM]
theorem zn_ldp (X : zCx p s m args meth c cc nL own ret D (zTyM cI) 18 ad A) {i : Int} (h0 : 0 ≤ i) (h1 : i < 98) (v : Nat) (hv : M.2.1 i.toNat = v) (hd : decode cc pc = .ok (.iaload, 1)) (kk : Z p l e R s m args below meth c nL D 18 ad A cells slots Q (pc + 1) lv (.int (iZ ((v : Nat) : Int)) :: st) (gM ad cI M)) : Z p l e R s m args below meth c nL D 18 ad A cells slots Q pc lv (.int (iZ i) :: .ref (ad 12) :: st) (gM ad cI M) :=
  z_iald X 12 0 (by omega) gM_V rfl h0 (by omega) (by omega) hd (by rw [hv]; exact kk)
theorem zn_stp (X : zCx p s m args meth c cc nL own ret D (zTyM cI) 18 ad A) {i z : Int} (h0 : 0 ≤ i) (h1 : i < 98) (v : Nat) (hz : z = (v : Int)) (hd : decode cc pc = .ok (.iastore, 1)) (kk : Z p l e R s m args below meth c nL D 18 ad A cells slots Q (pc + 1) lv st (gM ad cI (fp M (va_up M.2.1 i.toNat v)))) : Z p l e R s m args below meth c nL D 18 ad A cells slots Q pc lv (.int (iZ z) :: .int (iZ i) :: .ref (ad 12) :: st) (gM ad cI M) := by
  subst hz
  refine z_iast X 12 0 (by omega) gM_V rfl h0 (by omega) (by omega) hd (z_eqg ?_ kk)
  rw [zl_updp, gM_fp]
theorem zn_pcode (X : zCx p s m args meth c cc nL RX4 ret D (zTyM cI) 18 ad A) {z : Int} (hd : decode cc pc = .ok (.putfield 62, 3)) (kk : Z p l e R s m args below meth c nL D 18 ad A cells slots Q (pc + 3) lv st (gM ad cI (fcode M z))) : Z p l e R s m args below meth c nL D 18 ad A cells slots Q pc lv (.int (iZ z) :: .ref (ad 0) :: st) (gM ad cI M) :=
  z_put X zinX4 tyX4 tyX4_ok nmX4 0 (by omega) gM_O (ci := 6) rfl 0 (by decide) (ref := "TowerFieldsModel") zw671 rfl rfl (ty := .int) (by decide +kernel) rfl rfl (Nat.le_of_ble_eq_true rfl) hd (z_eqg (gM_ob (M := M) (fcode M z) rfl rfl _ (gM_O (M := fcode M z)).symm) kk)
theorem zn_pmany (X : zCx p s m args meth c cc nL RX4 ret D (zTyM cI) 18 ad A) {z : Int} (hd : decode cc pc = .ok (.putfield 94, 3)) (kk : Z p l e R s m args below meth c nL D 18 ad A cells slots Q (pc + 3) lv st (gM ad cI (fmany M z))) : Z p l e R s m args below meth c nL D 18 ad A cells slots Q pc lv (.int (iZ z) :: .ref (ad 0) :: st) (gM ad cI M) :=
  z_put X zinX4 tyX4 tyX4_ok nmX4 0 (by omega) gM_O (ci := 6) rfl 1 (by decide) (ref := "TowerFieldsModel") zw672 rfl rfl (ty := .int) (by decide +kernel) rfl rfl (Nat.le_of_ble_eq_true rfl) hd (z_eqg (gM_ob (M := M) (fmany M z) rfl rfl _ (gM_O (M := fmany M z)).symm) kk)
theorem zn_pkind (X : zCx p s m args meth c cc nL RX4 ret D (zTyM cI) 18 ad A) {z : Int} (hd : decode cc pc = .ok (.putfield 119, 3)) (kk : Z p l e R s m args below meth c nL D 18 ad A cells slots Q (pc + 3) lv st (gM ad cI (fkind M z))) : Z p l e R s m args below meth c nL D 18 ad A cells slots Q pc lv (.int (iZ z) :: .ref (ad 0) :: st) (gM ad cI M) :=
  z_put X zinX4 tyX4 tyX4_ok nmX4 0 (by omega) gM_O (ci := 6) rfl 4 (by decide) (ref := "TowerFieldsModel") zw675 rfl rfl (ty := .int) (by decide +kernel) rfl rfl (Nat.le_of_ble_eq_true rfl) hd (z_eqg (gM_ob (M := M) (fkind M z) rfl rfl _ (gM_O (M := fkind M z)).symm) kk)
theorem zn_pcolumns (X : zCx p s m args meth c cc nL RX4 ret D (zTyM cI) 18 ad A) {z : Int} (hd : decode cc pc = .ok (.putfield 80, 3)) (kk : Z p l e R s m args below meth c nL D 18 ad A cells slots Q (pc + 3) lv st (gM ad cI (fcols M z))) : Z p l e R s m args below meth c nL D 18 ad A cells slots Q pc lv (.int (iZ z) :: .ref (ad 0) :: st) (gM ad cI M) :=
  z_put X zinX4 tyX4 tyX4_ok nmX4 0 (by omega) gM_O (ci := 6) rfl 14 (by decide) (ref := "TowerFieldsModel") zw685 rfl rfl (ty := .int) (by decide +kernel) rfl rfl (Nat.le_of_ble_eq_true rfl) hd (z_eqg (gM_ob (M := M) (fcols M z) rfl rfl _ (gM_O (M := fcols M z)).symm) kk)
end ZNR
