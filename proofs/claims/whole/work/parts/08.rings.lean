/-! there are such rings -/
theorem mr_conv_tl {R : Type} [Lean.Grind.CommRing R] (f g : Nat → R) (n : Nat) : mp_S (n + 2) (fun i => f i * g (n + 1 - i)) = f 0 * g (n + 1) + mp_S (n + 1) (fun i => f (i + 1) * g (n - i)) := by
  rw [mp_S_first]
  congr 1
  exact mp_S_cong (fun i hi => by rw [show n + 1 - (i + 1) = n - i by omega])
def mr_mul {R : Type} [Lean.Grind.CommRing R] (f g : Nat → R) : Nat → R := fun n => mp_S (n + 1) (fun i => f i * g (n - i))
theorem mr_mul_0 {R : Type} [Lean.Grind.CommRing R] (f g : Nat → R) : mr_mul f g 0 = f 0 * g 0 := by
  show mp_S 1 _ = _
  rw [mp_S_s, mp_S_0]
  simp
  grind
theorem mr_mul_s {R : Type} [Lean.Grind.CommRing R] (f g : Nat → R) (n : Nat) : mr_mul f g (n + 1) = f 0 * g (n + 1) + mr_mul (fun i => f (i + 1)) g n := mr_conv_tl f g n
theorem mr_mul_add {R : Type} [Lean.Grind.CommRing R] (f g h : Nat → R) (n : Nat) : mr_mul f (fun i => g i + h i) n = mr_mul f g n + mr_mul f h n := by
  show mp_S _ _ = mp_S _ _ + mp_S _ _
  rw [← mp_S_add]
  exact mp_S_cong (fun i _ => by grind)
theorem mr_add_mul {R : Type} [Lean.Grind.CommRing R] (f g h : Nat → R) (n : Nat) : mr_mul (fun i => f i + g i) h n = mr_mul f h n + mr_mul g h n := by
  show mp_S _ _ = mp_S _ _ + mp_S _ _
  rw [← mp_S_add]
  exact mp_S_cong (fun i _ => by grind)
theorem mr_comm {R : Type} [Lean.Grind.CommRing R] (f g : Nat → R) (n : Nat) : mr_mul f g n = mr_mul g f n := by
  show mp_S _ _ = mp_S _ _
  rw [mp_S_rev]
  exact mp_S_cong (fun i hi => by rw [show n + 1 - 1 - i = n - i by omega, show n - (n - i) = i by omega]; grind)
theorem mr_smul {R : Type} [Lean.Grind.CommRing R] (c : R) (f g : Nat → R) (n : Nat) : mr_mul (fun i => c * f i) g n = c * mr_mul f g n := by
  show mp_S _ _ = c * mp_S _ _
  rw [← mp_S_mul]
  exact mp_S_cong (fun i _ => by grind)
theorem mr_assoc {R : Type} [Lean.Grind.CommRing R] : ∀ (n : Nat) (f g h : Nat → R), mr_mul (mr_mul f g) h n = mr_mul f (mr_mul g h) n
  | 0, f, g, h => by rw [mr_mul_0, mr_mul_0, mr_mul_0, mr_mul_0]; grind
  | n + 1, f, g, h => by
    rw [mr_mul_s, mr_mul_s f, mr_mul_0, ← mr_assoc n]
    have e : (fun i => mr_mul f g (i + 1)) = fun i => (f 0 * g (i + 1)) + mr_mul (fun j => f (j + 1)) g i := funext (fun i => mr_mul_s f g i)
    rw [e, mr_add_mul, mr_smul, mr_mul_s g]
    grind
theorem mr_one {R : Type} [Lean.Grind.CommRing R] (f : Nat → R) (n : Nat) : mr_mul (fun i => if i = 0 then 1 else 0) f n = f n := by
  show mp_S _ _ = _
  rw [mp_S_one (k := 0) (by omega) (fun i _ hi => by dsimp only; rw [if_neg hi]; grind)]
  simp
  grind
theorem mr_bd {R : Type} [Lean.Grind.CommRing R] {f g : Nat → R} {M N : Nat} (hf : ∀ n, M ≤ n → f n = 0) (hg : ∀ n, N ≤ n → g n = 0) : ∀ n, M + N ≤ n → mr_mul f g n = 0 := by
  intro n hn
  refine mp_S_zero (fun i hi => ?_)
  by_cases h : M ≤ i
  · rw [hf i h]; grind
  · rw [hg (n - i) (by omega)]; grind
abbrev mr_T (R : Type) [Lean.Grind.CommRing R] : Type := { f : Nat → R // ∃ N, ∀ n, N ≤ n → f n = 0 }
def mr_c {R : Type} [Lean.Grind.CommRing R] (c : R) : mr_T R := ⟨fun n => if n = 0 then c else 0, 1, fun n hn => if_neg (by omega)⟩
def mr_a {R : Type} [Lean.Grind.CommRing R] (f g : mr_T R) : mr_T R := ⟨fun n => f.1 n + g.1 n, by
  obtain ⟨M, hM⟩ := f.2
  obtain ⟨N, hN⟩ := g.2
  exact ⟨M + N, fun n hn => by dsimp only; rw [hM n (by omega), hN n (by omega)]; grind⟩⟩
def mr_n {R : Type} [Lean.Grind.CommRing R] (f : mr_T R) : mr_T R := ⟨fun n => -f.1 n, by
  obtain ⟨M, hM⟩ := f.2
  exact ⟨M, fun n hn => by dsimp only; rw [hM n hn]; grind⟩⟩
def mr_m {R : Type} [Lean.Grind.CommRing R] (f g : mr_T R) : mr_T R := ⟨mr_mul f.1 g.1, by
  obtain ⟨M, hM⟩ := f.2
  obtain ⟨N, hN⟩ := g.2
  exact ⟨M + N, mr_bd hM hN⟩⟩
def mr_pow {R : Type} [Lean.Grind.CommRing R] (f : mr_T R) : Nat → mr_T R
  | 0 => mr_c (0 + 1)
  | n + 1 => mr_m (mr_pow f n) f
def mr_nR {R : Type} [Lean.Grind.CommRing R] : Nat → R
  | 0 => 0
  | n + 1 => mr_nR n + 1
def mr_iR {R : Type} [Lean.Grind.CommRing R] : Int → R
  | .ofNat n => mr_nR n
  | .negSucc n => -mr_nR (n + 1)
theorem mr_iR_neg {R : Type} [Lean.Grind.CommRing R] (i : Int) : mr_iR (R := R) (-i) = -mr_iR i := by
  cases i with
  | ofNat n =>
    cases n with
    | zero =>
      show (0 : R) = -0
      grind
    | succ n => rfl
  | negSucc n =>
    show mr_nR (n + 1) = - -mr_nR (n + 1)
    grind
theorem mr_ext {R : Type} [Lean.Grind.CommRing R] {f g : mr_T R} (h : ∀ n, f.1 n = g.1 n) : f = g := Subtype.ext (funext h)
theorem mr_c_mul {R : Type} [Lean.Grind.CommRing R] (c : R) (f : Nat → R) (n : Nat) : mr_mul (fun i => if i = 0 then c else 0) f n = c * f n := by
  show mp_S _ _ = _
  rw [mp_S_one (k := 0) (by omega) (fun i _ hi => by dsimp only; rw [if_neg hi]; grind)]
  simp
def mr_ring (R : Type) [Lean.Grind.CommRing R] : Lean.Grind.CommRing (mr_T R) where
  add := mr_a
  mul := mr_m
  neg := mr_n
  sub f g := mr_a f (mr_n g)
  natCast := ⟨fun n => mr_c (mr_nR n)⟩
  ofNat n := ⟨mr_c (mr_nR n)⟩
  intCast := ⟨fun n => mr_c (mr_iR n)⟩
  nsmul := ⟨fun n f => mr_m (mr_c (mr_nR n)) f⟩
  zsmul := ⟨fun n f => mr_m (mr_c (mr_iR n)) f⟩
  npow := ⟨mr_pow⟩
  add_zero f := mr_ext (fun n => by
    show f.1 n + (if n = 0 then (0 : R) else 0) = f.1 n
    split <;> grind)
  add_comm f g := mr_ext (fun n => by
    show f.1 n + g.1 n = g.1 n + f.1 n
    grind)
  add_assoc f g h := mr_ext (fun n => by
    show f.1 n + g.1 n + h.1 n = f.1 n + (g.1 n + h.1 n)
    grind)
  mul_assoc f g h := mr_ext (fun n => mr_assoc n f.1 g.1 h.1)
  mul_one f := mr_ext (fun n => by
    show mr_mul f.1 (fun i => if i = 0 then (0 + 1 : R) else 0) n = f.1 n
    rw [mr_comm, mr_c_mul]
    grind)
  one_mul f := mr_ext (fun n => by
    show mr_mul (fun i => if i = 0 then (0 + 1 : R) else 0) f.1 n = f.1 n
    rw [mr_c_mul]
    grind)
  left_distrib f g h := mr_ext (fun n => mr_mul_add f.1 g.1 h.1 n)
  right_distrib f g h := mr_ext (fun n => mr_add_mul f.1 g.1 h.1 n)
  zero_mul f := mr_ext (fun n => by
    show mr_mul (fun i => if i = 0 then (0 : R) else 0) f.1 n = if n = 0 then (0 : R) else 0
    rw [mr_c_mul]
    split <;> grind)
  mul_zero f := mr_ext (fun n => by
    show mr_mul f.1 (fun i => if i = 0 then (0 : R) else 0) n = if n = 0 then (0 : R) else 0
    rw [mr_comm, mr_c_mul]
    split <;> grind)
  pow_zero f := rfl
  pow_succ f n := rfl
  ofNat_succ a := mr_ext (fun n => by
    show (if n = 0 then mr_nR a + 1 else (0 : R)) = (if n = 0 then mr_nR a else 0) + (if n = 0 then (0 + 1 : R) else 0)
    split <;> grind)
  ofNat_eq_natCast a := rfl
  nsmul_eq_natCast_mul a f := rfl
  neg_add_cancel f := mr_ext (fun n => by
    show -f.1 n + f.1 n = if n = 0 then (0 : R) else 0
    split <;> grind)
  sub_eq_add_neg f g := rfl
  intCast_ofNat a := rfl
  intCast_neg a := mr_ext (fun n => by
    show (if n = 0 then mr_iR (-a) else (0 : R)) = -(if n = 0 then mr_iR a else 0)
    rw [mr_iR_neg]
    split <;> grind)
  neg_zsmul a f := mr_ext (fun n => by
    show mr_mul (fun i => if i = 0 then mr_iR (-a) else (0 : R)) f.1 n = -mr_mul (fun i => if i = 0 then mr_iR a else (0 : R)) f.1 n
    rw [mr_c_mul, mr_c_mul, mr_iR_neg]
    grind)
  zsmul_natCast_eq_nsmul a f := rfl
  mul_comm f g := mr_ext (fun n => mr_comm f.1 g.1 n)
theorem mr_ex (R : Type) [Lean.Grind.CommRing R] : ∃ (A : Type) (_ : Lean.Grind.CommRing A) (cf : A → Nat → R), mp_P cf := by
  refine ⟨mr_T R, mr_ring R, fun f => f.1, ?_⟩
  refine ⟨fun a b h => mr_ext h, fun a b n => rfl, fun a b n => rfl, fun a => a.2, fun g N hg => ⟨⟨g, N, hg⟩, fun _ => rfl⟩, fun n => ?_⟩
  show (if n = 0 then (0 + 1 : R) else 0) = if n = 0 then 1 else 0
  split <;> grind
