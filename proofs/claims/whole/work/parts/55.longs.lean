/-! long numbers -/
def lZ (z : Int) : Int64 := Int64.ofInt z
theorem lZ_toInt {z : Int} (h1 : -9223372036854775808 ≤ z) (h2 : z < 9223372036854775808) : (lZ z).toInt = z := Int64.toInt_ofInt_of_le (by omega) (by omega)
theorem lZ_of (x : Int64) : lZ x.toInt = x := Int64.ofInt_toInt x
theorem lZ_i2l {a : Int} (h1 : -2147483648 ≤ a) (h2 : a < 2147483648) : (iZ a).toInt64 = lZ a := Int64.toInt_inj.mp (by rw [Int32.toInt_toInt64, iZ_toInt h1 h2, lZ_toInt (by omega) (by omega)])
theorem lZ_l2i (a : Int) : (lZ a).toInt32 = iZ a := Int64.toInt32_ofInt
theorem lZ_add (a b : Int) : lZ a + lZ b = lZ (a + b) := (Int64.ofInt_add a b).symm
theorem lZ_sub (a b : Int) : lZ a - lZ b = lZ (a - b) := (Int64.ofInt_sub a b).symm
theorem lZ_mul (a b : Int) : lZ a * lZ b = lZ (a * b) := (Int64.ofInt_mul a b).symm
theorem lZ_min : Int64.minValue.toInt = -9223372036854775808 := by decide +kernel
theorem lZ_max : Int64.maxValue.toInt = 9223372036854775807 := by decide +kernel
theorem lZ_rem {a : Int} (h1 : -9223372036854775808 ≤ a) (h2 : a < 9223372036854775808) : lZ a - lZ a / lZ 32003 * lZ 32003 = lZ (a.tmod 32003) := by
  have h3 : lZ a / lZ 32003 = lZ (a.tdiv 32003) := (Int64.ofInt_tdiv (a := a) (b := 32003) (by rw [lZ_min]; omega) (by rw [lZ_max]; omega) (by rw [lZ_min]; omega) (by rw [lZ_max]; omega)).symm
  rw [h3, lZ_mul, lZ_sub, Int.tmod_def, Int.mul_comm]
theorem lZ_lt {a b : Int} (ha : -9223372036854775808 ≤ a ∧ a < 9223372036854775808) (hb : -9223372036854775808 ≤ b ∧ b < 9223372036854775808) : lZ a < lZ b ↔ a < b := by rw [Int64.lt_iff_toInt_lt, lZ_toInt ha.1 ha.2, lZ_toInt hb.1 hb.2]
theorem lZ_eq {a b : Int} (ha : -9223372036854775808 ≤ a ∧ a < 9223372036854775808) (hb : -9223372036854775808 ≤ b ∧ b < 9223372036854775808) : lZ a = lZ b ↔ a = b := by rw [← Int64.toInt_inj, lZ_toInt ha.1 ha.2, lZ_toInt hb.1 hb.2]
theorem lZ_32003 : (32003 : Int64) = lZ 32003 := rfl
theorem lZ_ne : ¬ lZ 32003 = 0 := by decide +kernel
theorem lZ_cmp {a b : Int} (ha : -9223372036854775808 ≤ a ∧ a < 9223372036854775808) (hb : -9223372036854775808 ≤ b ∧ b < 9223372036854775808) : ∃ z : Int, lg_cmp (lZ a) (lZ b) = iZ z ∧ ((z = 1 ∧ b < a) ∨ (z = 0 ∧ a = b) ∨ (z = -1 ∧ a < b)) := by
  unfold lg_cmp
  by_cases h1 : b < a
  · exact ⟨1, if_pos ((lZ_lt hb ha).mpr h1), Or.inl ⟨rfl, h1⟩⟩
  · by_cases h2 : a = b
    · exact ⟨0, by rw [if_neg (fun q => h1 ((lZ_lt hb ha).mp q)), if_pos ((lZ_eq ha hb).mpr h2)]; rfl, Or.inr (Or.inl ⟨rfl, h2⟩)⟩
    · exact ⟨-1, by rw [if_neg (fun q => h1 ((lZ_lt hb ha).mp q)), if_neg (fun q => h2 ((lZ_eq ha hb).mp q))]; rfl, Or.inr (Or.inr ⟨rfl, by omega⟩)⟩
/-- what a remainder toward 0 is -/
theorem ztm (a : Int) : (0 ≤ a.tmod 32003 ∧ a.tmod 32003 = a % 32003) ∨ (a.tmod 32003 < 0 ∧ a.tmod 32003 + 32003 = a % 32003) := by
  rw [Int.tmod_eq_emod]
  split
  · exact Or.inl ⟨by omega, by omega⟩
  · rename_i h
    have h1 : ¬ (32003 : Int) ∣ a := fun q => h (Or.inr q)
    refine Or.inr ⟨?_, ?_⟩
    · show a % 32003 - 32003 < 0
      omega
    · show a % 32003 - 32003 + 32003 = a % 32003
      omega
theorem ztm_nn {a : Int} (h : 0 ≤ a) : a.tmod 32003 = a % 32003 := Int.tmod_eq_emod_of_nonneg h
/-! a number of any size, modulo -/
def mI (z : Int) : FP := mf_n (z % 32003).toNat
theorem vz_mI (z : Int) : vz (mI z) = z % 32003 := by
  rw [mI, vz_n (by omega)]
  omega
theorem mI_vz (x : FP) : mI (vz x) = x := vz_inj (by rw [vz_mI]; have := vz_nn x; have := vz_lt x; omega)
theorem mI_eq {a b : Int} (h : a % 32003 = b % 32003) : mI a = mI b := by rw [mI, mI, h]
theorem mI_add (a b : Int) : mI (a + b) = mI a + mI b := vz_inj (by rw [← vz_a, vz_mI, vz_mI, vz_mI]; omega)
theorem mI_mul (a b : Int) : mI (a * b) = mI a * mI b := vz_inj (by rw [← vz_m, vz_mI, vz_mI, vz_mI]; exact Int.mul_emod a b 32003)
theorem mI_0 : mI 0 = 0 := rfl
theorem mI_1 : mI 1 = 1 := rfl
theorem mI_neg (a : Int) : mI (-a) = -mI a := by
  have h := mI_add (-a) a
  rw [show -a + a = 0 by omega, mI_0] at h
  grind
theorem mI_sub (a b : Int) : mI (a - b) = mI a - mI b := by
  rw [show a - b = a + -b by omega, mI_add, mI_neg]
  grind
theorem mI_nat (n : Nat) : mI (n : Int) = mf_n n := by
  refine vz_inj ?_
  rw [vz_mI, ← show (n : Int).toNat = n from rfl, vz_n (by omega)]
  rfl
section ZLG
variable {p : Program} {l : Launch} {e : Env} {R : Room} {s : State} {m : MethodId} {args : Array Value} {below : List Frame} {meth : Method} {c : Code} {cc : ByteArray} {nL : Nat} {own : String} {ret : Option FieldType} {D : va_G} {tys : List (ClassId × FieldType)} {N : Nat} {ad : Nat → Nat} {A : Nat → Prop} {cells slots : Nat} {Q : State → Prop} {pc : Nat} {lv : List (Nat × Value)} {st : List Value} {g : Nat → va_E}
theorem z_ladd (X : zCx p s m args meth c cc nL own ret D tys N ad A) {a b : Int} (hd : decode cc pc = .ok (.ladd, 1)) (k : Z p l e R s m args below meth c nL D N ad A cells slots Q (pc + 1) lv (.long (lZ (a + b)) :: st) g) : Z p l e R s m args below meth c nL D N ad A cells slots Q pc lv (.long (lZ b) :: .long (lZ a) :: st) g := fun H locs ls hl hP hS => lv_ladd (zx_e X) (zx_b X) hd (by rw [lZ_add]; exact k H locs ls hl hP hS)
theorem z_lsub (X : zCx p s m args meth c cc nL own ret D tys N ad A) {a b : Int} (hd : decode cc pc = .ok (.lsub, 1)) (k : Z p l e R s m args below meth c nL D N ad A cells slots Q (pc + 1) lv (.long (lZ (a - b)) :: st) g) : Z p l e R s m args below meth c nL D N ad A cells slots Q pc lv (.long (lZ b) :: .long (lZ a) :: st) g := fun H locs ls hl hP hS => lv_lsub (zx_e X) (zx_b X) hd (by rw [lZ_sub]; exact k H locs ls hl hP hS)
theorem z_lmul (X : zCx p s m args meth c cc nL own ret D tys N ad A) {a b : Int} (hd : decode cc pc = .ok (.lmul, 1)) (k : Z p l e R s m args below meth c nL D N ad A cells slots Q (pc + 1) lv (.long (lZ (a * b)) :: st) g) : Z p l e R s m args below meth c nL D N ad A cells slots Q pc lv (.long (lZ b) :: .long (lZ a) :: st) g := fun H locs ls hl hP hS => lv_lmul (zx_e X) (zx_b X) hd (by rw [lZ_mul]; exact k H locs ls hl hP hS)
theorem z_lremT (X : zCx p s m args meth c cc nL own ret D tys N ad A) {a : Int} (h1 : -9223372036854775808 ≤ a) (h2 : a < 9223372036854775808) (hd : decode cc pc = .ok (.lrem, 1)) (k : Z p l e R s m args below meth c nL D N ad A cells slots Q (pc + 1) lv (.long (lZ (a.tmod 32003)) :: st) g) : Z p l e R s m args below meth c nL D N ad A cells slots Q pc lv (.long (lZ 32003) :: .long (lZ a) :: st) g := fun H locs ls hl hP hS => lv_lrem (zx_e X) (zx_b X) hd lZ_ne (by rw [lZ_rem h1 h2]; exact k H locs ls hl hP hS)
theorem z_lrem (X : zCx p s m args meth c cc nL own ret D tys N ad A) {a : Int} (h1 : 0 ≤ a) (h2 : a < 9223372036854775808) (hd : decode cc pc = .ok (.lrem, 1)) (k : Z p l e R s m args below meth c nL D N ad A cells slots Q (pc + 1) lv (.long (lZ (a % 32003)) :: st) g) : Z p l e R s m args below meth c nL D N ad A cells slots Q pc lv (.long (lZ 32003) :: .long (lZ a) :: st) g := fun H locs ls hl hP hS => lv_lrem (zx_e X) (zx_b X) hd lZ_ne (by rw [lZ_rem (by omega) h2, ztm_nn h1]; exact k H locs ls hl hP hS)
theorem z_i2l (X : zCx p s m args meth c cc nL own ret D tys N ad A) {a : Int} (h1 : -2147483648 ≤ a) (h2 : a < 2147483648) (hd : decode cc pc = .ok (.i2l, 1)) (k : Z p l e R s m args below meth c nL D N ad A cells slots Q (pc + 1) lv (.long (lZ a) :: st) g) : Z p l e R s m args below meth c nL D N ad A cells slots Q pc lv (.int (iZ a) :: st) g := fun H locs ls hl hP hS => lv_i2l (zx_e X) (zx_b X) hd (lZ_i2l h1 h2) (k H locs ls hl hP hS)
theorem z_l2i (X : zCx p s m args meth c cc nL own ret D tys N ad A) {a : Int} (hd : decode cc pc = .ok (.l2i, 1)) (k : Z p l e R s m args below meth c nL D N ad A cells slots Q (pc + 1) lv (.int (iZ a) :: st) g) : Z p l e R s m args below meth c nL D N ad A cells slots Q pc lv (.long (lZ a) :: st) g := fun H locs ls hl hP hS => lv_l2i (zx_e X) (zx_b X) hd (lZ_l2i a) (k H locs ls hl hP hS)
theorem z_lconst0 (X : zCx p s m args meth c cc nL own ret D tys N ad A)  (hd : decode cc pc = .ok (.lconst 0, 1)) (k : Z p l e R s m args below meth c nL D N ad A cells slots Q (pc + 1) lv (.long (lZ 0) :: st) g) : Z p l e R s m args below meth c nL D N ad A cells slots Q pc lv st g := fun H locs ls hl hP hS => lv_lconst (n := 0) (v := lZ 0) (zx_e X) (zx_b X) hd rfl (k H locs ls hl hP hS)
theorem z_lconst1 (X : zCx p s m args meth c cc nL own ret D tys N ad A)  (hd : decode cc pc = .ok (.lconst 1, 1)) (k : Z p l e R s m args below meth c nL D N ad A cells slots Q (pc + 1) lv (.long (lZ 1) :: st) g) : Z p l e R s m args below meth c nL D N ad A cells slots Q pc lv st g := fun H locs ls hl hP hS => lv_lconst (n := 1) (v := lZ 1) (zx_e X) (zx_b X) hd rfl (k H locs ls hl hP hS)
theorem z_ldc2Z (X : zCx p s m args meth c cc nL own ret D tys N ad A) {index : Nat} (hc : Cond.constantLong own index (32003 : Int64) ∈ wsG) (hd : decode cc pc = .ok (.ldc2_w index, 3)) (k : Z p l e R s m args below meth c nL D N ad A cells slots Q (pc + 3) lv (.long (lZ 32003) :: st) g) : Z p l e R s m args below meth c nL D N ad A cells slots Q pc lv st g := z_ldc2 X hc hd k
theorem z_lcmp (X : zCx p s m args meth c cc nL own ret D tys N ad A) {a b : Int} (ha : -9223372036854775808 ≤ a ∧ a < 9223372036854775808) (hb : -9223372036854775808 ≤ b ∧ b < 9223372036854775808) (hd : decode cc pc = .ok (.lcmp, 1)) (k : ∀ z : Int, (z = 1 ∧ b < a) ∨ (z = 0 ∧ a = b) ∨ (z = -1 ∧ a < b) → Z p l e R s m args below meth c nL D N ad A cells slots Q (pc + 1) lv (.int (iZ z) :: st) g) : Z p l e R s m args below meth c nL D N ad A cells slots Q pc lv (.long (lZ b) :: .long (lZ a) :: st) g := fun H locs ls hl hP hS => W.lcmp (zx_e X) (zx_b X) hd (by
  obtain ⟨z, h1, h2⟩ := lZ_cmp ha hb
  rw [h1]
  exact k z h2 H locs ls hl hP hS)
end ZLG
set_option maxHeartbeats 8000000 in
set_option maxRecDepth 100000 in
theorem c_X3_residue (l : Launch) {D : va_G} {tys : List (ClassId × FieldType)} {N : Nat} {ad : Nat → Nat} (g : Nat → va_E) {a : Int} (h1 : -9223372036854775808 ≤ a) (h2 : a < 9223372036854775808) : zMi l yX3_residue cX3_residue 4 (some .int) 0 D tys N ad [.long (lZ a)] g (fun _ : Unit => g) (fun z _ => z = vz (mI a)) := by
  refine z_goi zm_X3_residue (Nat.le_of_ble_eq_true rfl) [(0, .long (lZ (a)))] rfl (fun p e s m args below meth c A Q X E => ?_)
  refine z_lload_n X 0 rfl rfl dX3_residue_0 ?_
  refine z_ldc2Z X zw274 dX3_residue_1 ?_
  refine z_lremT X h1 h2 dX3_residue_4 ?_
  have hq := ztm a
  obtain ⟨q, eq⟩ : ∃ q, q = a.tmod 32003 := ⟨_, rfl⟩
  rw [← eq] at hq
  rw [← eq]
  refine z_lstore_n X [(2, .long (lZ (q))), (0, .long (lZ (a)))] rfl rfl (by decide) dX3_residue_5 ?_
  refine z_lload_n X 0 rfl rfl dX3_residue_6 ?_
  refine z_lconst0 X dX3_residue_7 ?_
  refine z_lcmp X (by omega) (by omega) dX3_residue_8 (fun zc8 hzc8 => ?_)
  refine z_if_ge X (tgt := 20) (by omega) dX3_residue_9 (by decide) (fun hb9 => ?_) (fun hb9 => ?_)
  · refine z_lload_n X 0 rfl rfl dX3_residue_20 ?_
    refine z_l2i X dX3_residue_21 ?_
    exact E () (by rw [vz_mI]; omega) rfl dX3_residue_22
  · refine z_lload_n X 0 rfl rfl dX3_residue_12 ?_
    refine z_ldc2Z X zw274 dX3_residue_13 ?_
    refine z_ladd X dX3_residue_16 ?_
    refine z_goto X (tgt := 21) dX3_residue_17 (by decide) ?_
    refine z_l2i X dX3_residue_21 ?_
    exact E () (by rw [vz_mI]; omega) rfl dX3_residue_22
