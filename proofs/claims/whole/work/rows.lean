section
/-! numbers modulo 32003 -/
abbrev FP : Type := Fin 32003
/-- powers by squaring, as both programs do it: r * s^n -/
def mf_pw : Nat → Nat → Nat → Nat → Nat
  | 0, _, r, _ => r
  | k + 1, n, r, s => mf_pw k (n / 2) (if n % 2 = 1 then r * s % 32003 else r) (s * s % 32003)
def mf_in (a : Nat) : Nat := mf_pw 15 32001 1 a
def mf_all : Nat → Nat → Bool
  | 0, a => a % 32003 == 0 || (a * mf_in a) % 32003 == 1
  | k + 1, a => mf_all k (2 * a) && mf_all k (2 * a + 1)
set_option maxRecDepth 100000 in
theorem mf_all_ok : mf_all 15 0 = true := by decide +kernel
theorem mf_all_at : ∀ (k a b : Nat), mf_all k a = true → b < 2 ^ k → (2 ^ k * a + b) % 32003 = 0 ∨ ((2 ^ k * a + b) * mf_in (2 ^ k * a + b)) % 32003 = 1
  | 0, a, b, h, hb => by
    have hb0 : b = 0 := by simp at hb; omega
    subst hb0
    simp only [Nat.pow_zero, Nat.one_mul, Nat.add_zero]
    simp only [mf_all, Bool.or_eq_true, beq_iff_eq] at h
    exact h
  | k + 1, a, b, h, hb => by
    simp only [mf_all, Bool.and_eq_true] at h
    rw [Nat.pow_succ] at hb
    by_cases hc : b < 2 ^ k
    · have := mf_all_at k (2 * a) b h.1 hc
      rw [show 2 ^ (k + 1) * a + b = 2 ^ k * (2 * a) + b by rw [Nat.pow_succ, Nat.mul_assoc]]
      exact this
    · have := mf_all_at k (2 * a + 1) (b - 2 ^ k) h.2 (by omega)
      rw [show 2 ^ (k + 1) * a + b = 2 ^ k * (2 * a + 1) + (b - 2 ^ k) by rw [Nat.pow_succ, Nat.mul_assoc, Nat.mul_add]; omega]
      exact this
theorem mf_pw_lt : ∀ (k n r s : Nat), r < 32003 → mf_pw k n r s < 32003
  | 0, _, _, _, h => h
  | k + 1, n, r, s, h => by
    unfold mf_pw
    apply mf_pw_lt
    split
    · exact Nat.mod_lt _ (by omega)
    · exact h
theorem mf_in_lt (a : Nat) : mf_in a < 32003 := mf_pw_lt _ _ _ _ (by omega)
/-- the inverse, 0 of 0 -/
def mf_inv (a : FP) : FP := ⟨mf_in a.val, mf_in_lt _⟩
theorem mf_mul_inv {a : FP} (h : a ≠ 0) : a * mf_inv a = 1 := by
  have h1 := mf_all_at 15 0 a.val mf_all_ok (Nat.lt_trans a.isLt (by decide))
  simp only [Nat.mul_zero, Nat.zero_add] at h1
  have h2 : a.val % 32003 = a.val := Nat.mod_eq_of_lt a.isLt
  rcases h1 with h1 | h1
  · exact absurd (Fin.ext (by rw [h2] at h1; exact h1)) h
  · apply Fin.ext
    rw [Fin.val_mul]
    exact h1
theorem mf_inv_0 : mf_inv 0 = 0 := by decide +kernel
theorem mf_inv_1 : mf_inv 1 = 1 := by decide +kernel
theorem mf_nz {a b : FP} (h : a * b = 0) : a = 0 ∨ b = 0 := by
  by_cases ha : a = 0
  · exact Or.inl ha
  · right
    have h1 := mf_mul_inv ha
    grind
theorem mf_inv_ne {a : FP} (h : a ≠ 0) : mf_inv a ≠ 0 := by
  intro hz
  have h1 := mf_mul_inv h
  rw [hz] at h1
  have : (1 : FP) ≠ 0 := by decide
  grind
theorem mf_one_ne : (1 : FP) ≠ 0 := by decide
/-- a natural number as a number -/
def mf_n (n : Nat) : FP := Fin.ofNat 32003 n
theorem mf_n_add (a b : Nat) : mf_n (a + b) = mf_n a + mf_n b := by
  apply Fin.ext
  simp [mf_n, Fin.val_add, Fin.ofNat]
theorem mf_n_mul (a b : Nat) : mf_n (a * b) = mf_n a * mf_n b := by
  apply Fin.ext
  simp [mf_n, Fin.val_mul, Fin.ofNat, Nat.mul_mod]
theorem mf_n_0 : mf_n 0 = 0 := rfl
theorem mf_n_1 : mf_n 1 = 1 := rfl
theorem mf_n_val (a : FP) : mf_n a.val = a := by
  apply Fin.ext
  exact Nat.mod_eq_of_lt a.isLt
theorem mf_n_ne {n : Nat} (h0 : 0 < n) (h : n < 32003) : mf_n n ≠ 0 := by
  intro hz
  have : (mf_n n).val = 0 := by rw [hz]; rfl
  simp only [mf_n, Fin.ofNat] at this
  rw [Nat.mod_eq_of_lt h] at this
  omega
end
section
/-! sums, and polynomials in one letter over a ring, by their coefficients -/
def mp_S {R : Type} [Lean.Grind.CommRing R] : Nat → (Nat → R) → R
  | 0, _ => 0
  | n + 1, f => mp_S n f + f n
theorem mp_S_0 {R : Type} [Lean.Grind.CommRing R] (f : Nat → R) : mp_S 0 f = 0 := rfl
theorem mp_S_s {R : Type} [Lean.Grind.CommRing R] (n : Nat) (f : Nat → R) : mp_S (n + 1) f = mp_S n f + f n := rfl
theorem mp_S_cong {R : Type} [Lean.Grind.CommRing R] {f g : Nat → R} : ∀ {n : Nat}, (∀ i, i < n → f i = g i) → mp_S n f = mp_S n g
  | 0, _ => rfl
  | n + 1, h => by rw [mp_S_s, mp_S_s, mp_S_cong (fun i hi => h i (by omega)), h n (by omega)]
theorem mp_S_zero {R : Type} [Lean.Grind.CommRing R] {f : Nat → R} : ∀ {n : Nat}, (∀ i, i < n → f i = 0) → mp_S n f = 0
  | 0, _ => rfl
  | n + 1, h => by rw [mp_S_s, mp_S_zero (fun i hi => h i (by omega)), h n (by omega)]; grind
theorem mp_S_add {R : Type} [Lean.Grind.CommRing R] (f g : Nat → R) : ∀ n, mp_S n (fun i => f i + g i) = mp_S n f + mp_S n g
  | 0 => by rw [mp_S_0, mp_S_0, mp_S_0]; grind
  | n + 1 => by rw [mp_S_s, mp_S_s, mp_S_s, mp_S_add f g n]; grind
theorem mp_S_mul {R : Type} [Lean.Grind.CommRing R] (c : R) (f : Nat → R) : ∀ n, mp_S n (fun i => c * f i) = c * mp_S n f
  | 0 => by rw [mp_S_0, mp_S_0]; grind
  | n + 1 => by rw [mp_S_s, mp_S_s, mp_S_mul c f n]; grind
theorem mp_S_mulr {R : Type} [Lean.Grind.CommRing R] (c : R) (f : Nat → R) (n : Nat) : mp_S n (fun i => f i * c) = mp_S n f * c := by
  rw [show mp_S n f * c = c * mp_S n f by grind, ← mp_S_mul]
  exact mp_S_cong (fun i _ => by grind)
/-- one term alone -/
theorem mp_S_one {R : Type} [Lean.Grind.CommRing R] {f : Nat → R} {k : Nat} : ∀ {n : Nat}, k < n → (∀ i, i < n → i ≠ k → f i = 0) → mp_S n f = f k
  | 0, h, _ => absurd h (Nat.not_lt_zero _)
  | n + 1, h, h2 => by
    rw [mp_S_s]
    by_cases hk : k = n
    · subst hk
      rw [mp_S_zero (fun i hi => h2 i (by omega) (by omega))]; grind
    · rw [mp_S_one (k := k) (by omega) (fun i hi => h2 i (by omega)), h2 n (by omega) (fun e => hk e.symm)]; grind
/-- the first term apart -/
theorem mp_S_first {R : Type} [Lean.Grind.CommRing R] (f : Nat → R) : ∀ n, mp_S (n + 1) f = f 0 + mp_S n (fun i => f (i + 1))
  | 0 => by rw [mp_S_s, mp_S_0, mp_S_0]; grind
  | n + 1 => by rw [mp_S_s, mp_S_first f n, mp_S_s]; grind
theorem mp_S_more {R : Type} [Lean.Grind.CommRing R] {f : Nat → R} {n : Nat} : ∀ {m : Nat}, n ≤ m → (∀ i, n ≤ i → i < m → f i = 0) → mp_S m f = mp_S n f
  | 0, h, _ => by rw [show n = 0 by omega]
  | m + 1, h, h2 => by
    by_cases e : n = m + 1
    · rw [e]
    · rw [mp_S_s, mp_S_more (m := m) (by omega) (fun i h1 h3 => h2 i h1 (by omega)), h2 m (by omega) (by omega)]; grind
theorem mp_S_swap {R : Type} [Lean.Grind.CommRing R] (F : Nat → Nat → R) (m : Nat) : ∀ n, mp_S n (fun i => mp_S m (fun j => F i j)) = mp_S m (fun j => mp_S n (fun i => F i j))
  | 0 => by rw [mp_S_0]; exact (mp_S_zero (fun _ _ => rfl)).symm
  | n + 1 => by
    rw [mp_S_s, mp_S_swap F m n, ← mp_S_add]
    exact mp_S_cong (fun j _ => (mp_S_s _ _).symm)
theorem mp_S_rev {R : Type} [Lean.Grind.CommRing R] : ∀ (n : Nat) (f : Nat → R), mp_S n f = mp_S n (fun i => f (n - 1 - i))
  | 0, _ => rfl
  | n + 1, f => by
    rw [mp_S_first (fun i => f (n + 1 - 1 - i)), mp_S_s, mp_S_rev n f]
    have : mp_S n (fun i => f (n + 1 - 1 - (i + 1))) = mp_S n (fun i => f (n - 1 - i)) := mp_S_cong (fun i hi => by rw [show n + 1 - 1 - (i + 1) = n - 1 - i by omega])
    rw [this]
    simp only [Nat.add_sub_cancel, Nat.sub_zero]
    grind
/-- A is the ring of polynomials over R, cf their coefficients -/
def mp_P {R A : Type} [Lean.Grind.CommRing R] [Lean.Grind.CommRing A] (cf : A → Nat → R) : Prop :=
  (∀ a b, (∀ n, cf a n = cf b n) → a = b) ∧ (∀ a b n, cf (a + b) n = cf a n + cf b n) ∧ (∀ a b n, cf (a * b) n = mp_S (n + 1) (fun i => cf a i * cf b (n - i))) ∧
  (∀ a, ∃ N, ∀ n, N ≤ n → cf a n = 0) ∧ (∀ (g : Nat → R) (N : Nat), (∀ n, N ≤ n → g n = 0) → ∃ a, ∀ n, cf a n = g n) ∧ (∀ n, cf 1 n = if n = 0 then 1 else 0)
section
variable {R A : Type}
theorem mp_ext [Lean.Grind.CommRing R] [Lean.Grind.CommRing A] {cf : A → Nat → R} (H : mp_P cf) {a b : A} (h : ∀ n, cf a n = cf b n) : a = b := H.1 a b h
theorem mp_add [Lean.Grind.CommRing R] [Lean.Grind.CommRing A] {cf : A → Nat → R} (H : mp_P cf) (a b : A) (n : Nat) : cf (a + b) n = cf a n + cf b n := H.2.1 a b n
theorem mp_mul [Lean.Grind.CommRing R] [Lean.Grind.CommRing A] {cf : A → Nat → R} (H : mp_P cf) (a b : A) (n : Nat) : cf (a * b) n = mp_S (n + 1) (fun i => cf a i * cf b (n - i)) := H.2.2.1 a b n
theorem mp_zero [Lean.Grind.CommRing R] [Lean.Grind.CommRing A] {cf : A → Nat → R} (H : mp_P cf) (n : Nat) : cf 0 n = 0 := by
  have h := mp_add H 0 0 n
  rw [show (0 : A) + 0 = 0 by grind] at h
  grind
theorem mp_neg [Lean.Grind.CommRing R] [Lean.Grind.CommRing A] {cf : A → Nat → R} (H : mp_P cf) (a : A) (n : Nat) : cf (-a) n = - cf a n := by
  have h := mp_add H a (-a) n
  rw [show a + -a = 0 by grind, mp_zero H] at h
  grind
theorem mp_sub [Lean.Grind.CommRing R] [Lean.Grind.CommRing A] {cf : A → Nat → R} (H : mp_P cf) (a b : A) (n : Nat) : cf (a - b) n = cf a n - cf b n := by
  rw [show a - b = a + -b by grind, mp_add H, mp_neg H]
  grind
theorem mp_one [Lean.Grind.CommRing R] [Lean.Grind.CommRing A] {cf : A → Nat → R} (H : mp_P cf) (n : Nat) : cf 1 n = if n = 0 then 1 else 0 := H.2.2.2.2.2 n
theorem mp_sum [Lean.Grind.CommRing R] [Lean.Grind.CommRing A] {cf : A → Nat → R} (H : mp_P cf) (F : Nat → A) (n : Nat) : ∀ m, cf (mp_S m F) n = mp_S m (fun i => cf (F i) n)
  | 0 => mp_zero H n
  | m + 1 => by rw [mp_S_s, mp_S_s, mp_add H, mp_sum H F n m]
/-- the polynomial with these coefficients -/
noncomputable def mp_mk [Lean.Grind.CommRing R] [Lean.Grind.CommRing A] (cf : A → Nat → R) (g : Nat → R) : A := @Classical.epsilon A ⟨0⟩ (fun a => ∀ n, cf a n = g n)
theorem mp_mk_cf [Lean.Grind.CommRing R] [Lean.Grind.CommRing A] {cf : A → Nat → R} (H : mp_P cf) {g : Nat → R} (N : Nat) (h : ∀ n, N ≤ n → g n = 0) (n : Nat) : cf (mp_mk cf g) n = g n :=
  @Classical.epsilon_spec A (fun a => ∀ n, cf a n = g n) (H.2.2.2.2.1 g N h) n
theorem mp_mk_eq [Lean.Grind.CommRing R] [Lean.Grind.CommRing A] {cf : A → Nat → R} (H : mp_P cf) (a : A) : mp_mk cf (cf a) = a := by
  obtain ⟨N, hN⟩ := H.2.2.2.1 a
  exact mp_ext H (fun n => mp_mk_cf H N hN n)
/-- the term r times the letter to the k -/
noncomputable def mp_m [Lean.Grind.CommRing R] [Lean.Grind.CommRing A] (cf : A → Nat → R) (r : R) (k : Nat) : A := mp_mk cf (fun n => if n = k then r else 0)
theorem mp_m_cf [Lean.Grind.CommRing R] [Lean.Grind.CommRing A] {cf : A → Nat → R} (H : mp_P cf) (r : R) (k n : Nat) : cf (mp_m cf r k) n = if n = k then r else 0 :=
  mp_mk_cf H (k + 1) (fun n h => if_neg (by omega)) n
theorem mp_m_mul [Lean.Grind.CommRing R] [Lean.Grind.CommRing A] {cf : A → Nat → R} (H : mp_P cf) (r : R) (k : Nat) (a : A) (n : Nat) : cf (mp_m cf r k * a) n = if k ≤ n then r * cf a (n - k) else 0 := by
  rw [mp_mul H]
  by_cases h : k ≤ n
  · rw [if_pos h, mp_S_one (k := k) (by omega) (fun i _ hi => by rw [mp_m_cf H, if_neg hi]; grind), mp_m_cf H, if_pos rfl]
  · rw [if_neg h]
    exact mp_S_zero (fun i hi => by rw [mp_m_cf H, if_neg (by omega)]; grind)
/-- constants -/
noncomputable def mp_C [Lean.Grind.CommRing R] [Lean.Grind.CommRing A] (cf : A → Nat → R) (r : R) : A := mp_m cf r 0
theorem mp_C_cf [Lean.Grind.CommRing R] [Lean.Grind.CommRing A] {cf : A → Nat → R} (H : mp_P cf) (r : R) (n : Nat) : cf (mp_C cf r) n = if n = 0 then r else 0 := mp_m_cf H r 0 n
theorem mp_C_mul [Lean.Grind.CommRing R] [Lean.Grind.CommRing A] {cf : A → Nat → R} (H : mp_P cf) (r : R) (a : A) (n : Nat) : cf (mp_C cf r * a) n = r * cf a n := by
  rw [mp_C, mp_m_mul H, if_pos (Nat.zero_le _), Nat.sub_zero]
theorem mp_C_1 [Lean.Grind.CommRing R] [Lean.Grind.CommRing A] {cf : A → Nat → R} (H : mp_P cf) : mp_C cf 1 = 1 := mp_ext H (fun n => by rw [mp_C_cf H, mp_one H])
theorem mp_C_0 [Lean.Grind.CommRing R] [Lean.Grind.CommRing A] {cf : A → Nat → R} (H : mp_P cf) : mp_C cf 0 = 0 := mp_ext H (fun n => by rw [mp_C_cf H, mp_zero H]; split <;> rfl)
theorem mp_C_add [Lean.Grind.CommRing R] [Lean.Grind.CommRing A] {cf : A → Nat → R} (H : mp_P cf) (r s : R) : mp_C cf (r + s) = mp_C cf r + mp_C cf s := mp_ext H (fun n => by rw [mp_add H, mp_C_cf H, mp_C_cf H, mp_C_cf H]; split <;> grind)
theorem mp_C_mulC [Lean.Grind.CommRing R] [Lean.Grind.CommRing A] {cf : A → Nat → R} (H : mp_P cf) (r s : R) : mp_C cf (r * s) = mp_C cf r * mp_C cf s := mp_ext H (fun n => by rw [mp_C_mul H, mp_C_cf H, mp_C_cf H]; split <;> grind)
theorem mp_C_neg [Lean.Grind.CommRing R] [Lean.Grind.CommRing A] {cf : A → Nat → R} (H : mp_P cf) (r : R) : mp_C cf (-r) = -mp_C cf r := mp_ext H (fun n => by rw [mp_neg H, mp_C_cf H, mp_C_cf H]; split <;> grind)
theorem mp_C_sub [Lean.Grind.CommRing R] [Lean.Grind.CommRing A] {cf : A → Nat → R} (H : mp_P cf) (r s : R) : mp_C cf (r - s) = mp_C cf r - mp_C cf s := mp_ext H (fun n => by rw [mp_sub H, mp_C_cf H, mp_C_cf H, mp_C_cf H]; split <;> grind)
theorem mp_C_inj [Lean.Grind.CommRing R] [Lean.Grind.CommRing A] {cf : A → Nat → R} (H : mp_P cf) {r s : R} (h : mp_C cf r = mp_C cf s) : r = s := by
  have := congrArg (fun a => cf a 0) h
  simpa [mp_C_cf H] using this
theorem mp_m_add [Lean.Grind.CommRing R] [Lean.Grind.CommRing A] {cf : A → Nat → R} (H : mp_P cf) (r s : R) (k : Nat) : mp_m cf (r + s) k = mp_m cf r k + mp_m cf s k := mp_ext H (fun n => by rw [mp_add H, mp_m_cf H, mp_m_cf H, mp_m_cf H]; split <;> grind)
theorem mp_m_mulm [Lean.Grind.CommRing R] [Lean.Grind.CommRing A] {cf : A → Nat → R} (H : mp_P cf) (r s : R) (k j : Nat) : mp_m cf r k * mp_m cf s j = mp_m cf (r * s) (k + j) := mp_ext H (fun n => by
  rw [mp_m_mul H, mp_m_cf H, mp_m_cf H]
  by_cases h : n = k + j
  · rw [if_pos (by omega), if_pos (by omega), if_pos h]
  · rw [if_neg h]
    split
    · rw [if_neg (by omega)]; grind
    · rfl)
theorem mp_m_C [Lean.Grind.CommRing R] [Lean.Grind.CommRing A] {cf : A → Nat → R} (H : mp_P cf) (r s : R) (k : Nat) : mp_C cf r * mp_m cf s k = mp_m cf (r * s) k := by
  rw [mp_C, mp_m_mulm H, Nat.zero_add]
theorem mp_m_0 [Lean.Grind.CommRing R] [Lean.Grind.CommRing A] {cf : A → Nat → R} (H : mp_P cf) (k : Nat) : mp_m cf 0 k = 0 := mp_ext H (fun n => by rw [mp_m_cf H, mp_zero H]; split <;> rfl)
/-- the size: 1 more than the degree, 0 of 0 -/
noncomputable def mp_sz [Lean.Grind.CommRing R] (cf : A → Nat → R) (a : A) : Nat := @Classical.epsilon Nat ⟨0⟩ (fun N => (∀ n, N ≤ n → cf a n = 0) ∧ ∀ M, (∀ n, M ≤ n → cf a n = 0) → N ≤ M)
theorem mp_least (P : Nat → Prop) : ∀ N, P N → ∃ k, P k ∧ ∀ j, P j → k ≤ j := by
  intro N
  induction N using Nat.strongRecOn with
  | ind N ih =>
    intro h
    by_cases hx : ∃ m, m < N ∧ P m
    · obtain ⟨m, h1, h2⟩ := hx
      exact ih m h1 h2
    · exact ⟨N, h, fun j hj => Nat.le_of_not_lt (fun q => hx ⟨j, q, hj⟩)⟩
theorem mp_sz_spec [Lean.Grind.CommRing R] [Lean.Grind.CommRing A] {cf : A → Nat → R} (H : mp_P cf) (a : A) : (∀ n, mp_sz cf a ≤ n → cf a n = 0) ∧ ∀ M, (∀ n, M ≤ n → cf a n = 0) → mp_sz cf a ≤ M := by
  obtain ⟨N, hN⟩ := H.2.2.2.1 a
  obtain ⟨k, h1, h2⟩ := mp_least (fun N => ∀ n, N ≤ n → cf a n = 0) N hN
  exact @Classical.epsilon_spec Nat (fun N => (∀ n, N ≤ n → cf a n = 0) ∧ ∀ M, (∀ n, M ≤ n → cf a n = 0) → N ≤ M) ⟨k, h1, h2⟩
theorem mp_sz_out [Lean.Grind.CommRing R] [Lean.Grind.CommRing A] {cf : A → Nat → R} (H : mp_P cf) {a : A} {n : Nat} (h : mp_sz cf a ≤ n) : cf a n = 0 := (mp_sz_spec H a).1 n h
theorem mp_sz_le [Lean.Grind.CommRing R] [Lean.Grind.CommRing A] {cf : A → Nat → R} (H : mp_P cf) {a : A} {M : Nat} (h : ∀ n, M ≤ n → cf a n = 0) : mp_sz cf a ≤ M := (mp_sz_spec H a).2 M h
theorem mp_sz_lt [Lean.Grind.CommRing R] [Lean.Grind.CommRing A] {cf : A → Nat → R} (H : mp_P cf) {a : A} {n : Nat} (h : cf a n ≠ 0) : n < mp_sz cf a := by
  rcases Nat.lt_or_ge n (mp_sz cf a) with q | q
  · exact q
  · exact absurd (mp_sz_out H q) h
theorem mp_sz_top [Lean.Grind.CommRing R] [Lean.Grind.CommRing A] {cf : A → Nat → R} (H : mp_P cf) {a : A} {n : Nat} (h : mp_sz cf a = n + 1) : cf a n ≠ 0 := by
  intro hz
  have := mp_sz_le H (a := a) (M := n) (fun j hj => by
    by_cases e : j = n
    · rw [e]; exact hz
    · exact mp_sz_out H (by omega))
  omega
theorem mp_sz_eq [Lean.Grind.CommRing R] [Lean.Grind.CommRing A] {cf : A → Nat → R} (H : mp_P cf) {a : A} {n : Nat} (h : ∀ j, n < j → cf a j = 0) (h2 : cf a n ≠ 0) : mp_sz cf a = n + 1 := by
  have h3 := mp_sz_lt H h2
  have h4 := mp_sz_le H (a := a) (M := n + 1) (fun j hj => h j (by omega))
  omega
theorem mp_sz_0 [Lean.Grind.CommRing R] [Lean.Grind.CommRing A] {cf : A → Nat → R} (H : mp_P cf) {a : A} : mp_sz cf a = 0 ↔ a = 0 := by
  constructor
  · intro h
    exact mp_ext H (fun n => by rw [mp_zero H]; exact mp_sz_out H (by omega))
  · intro h
    have := mp_sz_le H (a := a) (M := 0) (fun n _ => by rw [h, mp_zero H])
    omega
theorem mp_sz_pos [Lean.Grind.CommRing R] [Lean.Grind.CommRing A] {cf : A → Nat → R} (H : mp_P cf) {a : A} (h : a ≠ 0) : 0 < mp_sz cf a := by
  rcases Nat.eq_zero_or_pos (mp_sz cf a) with q | q
  · exact absurd ((mp_sz_0 H).mp q) h
  · exact q
theorem mp_sz_add [Lean.Grind.CommRing R] [Lean.Grind.CommRing A] {cf : A → Nat → R} (H : mp_P cf) {a b : A} {n : Nat} (ha : mp_sz cf a ≤ n) (hb : mp_sz cf b ≤ n) : mp_sz cf (a + b) ≤ n :=
  mp_sz_le H (fun j hj => by rw [mp_add H, mp_sz_out H (by omega), mp_sz_out H (by omega)]; grind)
theorem mp_sz_sub [Lean.Grind.CommRing R] [Lean.Grind.CommRing A] {cf : A → Nat → R} (H : mp_P cf) {a b : A} {n : Nat} (ha : mp_sz cf a ≤ n) (hb : mp_sz cf b ≤ n) : mp_sz cf (a - b) ≤ n :=
  mp_sz_le H (fun j hj => by rw [mp_sub H, mp_sz_out H (by omega), mp_sz_out H (by omega)]; grind)
theorem mp_sz_neg [Lean.Grind.CommRing R] [Lean.Grind.CommRing A] {cf : A → Nat → R} (H : mp_P cf) {a : A} {n : Nat} (ha : mp_sz cf a ≤ n) : mp_sz cf (-a) ≤ n :=
  mp_sz_le H (fun j hj => by rw [mp_neg H, mp_sz_out H (by omega)]; grind)
theorem mp_sz_mul_le [Lean.Grind.CommRing R] [Lean.Grind.CommRing A] {cf : A → Nat → R} (H : mp_P cf) {a b : A} {m n : Nat} (ha : mp_sz cf a ≤ m + 1) (hb : mp_sz cf b ≤ n + 1) : mp_sz cf (a * b) ≤ m + n + 1 :=
  mp_sz_le H (fun j hj => by
    rw [mp_mul H]
    exact mp_S_zero (fun i hi => by
      by_cases h : i ≤ m
      · rw [mp_sz_out H (a := b) (by omega)]; grind
      · rw [mp_sz_out H (a := a) (by omega)]; grind))
theorem mp_sz_C [Lean.Grind.CommRing R] [Lean.Grind.CommRing A] {cf : A → Nat → R} (H : mp_P cf) (r : R) : mp_sz cf (mp_C cf r) ≤ 1 := mp_sz_le H (fun n hn => by rw [mp_C_cf H, if_neg (by omega)])
theorem mp_sz_m [Lean.Grind.CommRing R] [Lean.Grind.CommRing A] {cf : A → Nat → R} (H : mp_P cf) (r : R) (k : Nat) : mp_sz cf (mp_m cf r k) ≤ k + 1 := mp_sz_le H (fun n hn => by rw [mp_m_cf H, if_neg (by omega)])
theorem mp_sz_1 [Lean.Grind.CommRing R] [Lean.Grind.CommRing A] {cf : A → Nat → R} (H : mp_P cf) {a : A} (h : mp_sz cf a ≤ 1) : a = mp_C cf (cf a 0) := mp_ext H (fun n => by
  rw [mp_C_cf H]
  split
  · next e => rw [e]
  · exact mp_sz_out H (by omega))
/-- the number at the head -/
noncomputable def mp_lc [Lean.Grind.CommRing R] (cf : A → Nat → R) (a : A) : R := cf a (mp_sz cf a - 1)
theorem mp_lc_ne [Lean.Grind.CommRing R] [Lean.Grind.CommRing A] {cf : A → Nat → R} (H : mp_P cf) {a : A} (h : a ≠ 0) : mp_lc cf a ≠ 0 := by
  have := mp_sz_pos H h
  exact mp_sz_top H (by omega)
end
end
section
/-! no divisors of zero, division, common divisors, primes, Gauss -/
def mp_NZ (R : Type) [Lean.Grind.CommRing R] : Prop := (∀ x y : R, x * y = 0 → x = 0 ∨ y = 0) ∧ (1 : R) ≠ 0
def mp_D {A : Type} [Lean.Grind.CommRing A] (a b : A) : Prop := ∃ c, b = a * c
def mp_U {A : Type} [Lean.Grind.CommRing A] (a : A) : Prop := ∃ c, a * c = 1
def mp_Fd (R : Type) [Lean.Grind.CommRing R] : Prop := (∀ x : R, x ≠ 0 → ∃ y, x * y = 1) ∧ (1 : R) ≠ 0
theorem mp_Fd_nz {R : Type} [Lean.Grind.CommRing R] (h : mp_Fd R) : mp_NZ R := by
  refine ⟨fun x y hxy => ?_, h.2⟩
  by_cases hx : x = 0
  · exact Or.inl hx
  · obtain ⟨z, hz⟩ := h.1 x hx
    right
    grind
theorem mp_FP : mp_Fd FP := ⟨fun x hx => ⟨mf_inv x, mf_mul_inv hx⟩, mf_one_ne⟩
theorem mp_nz_mul {R : Type} [Lean.Grind.CommRing R] (h : mp_NZ R) {x y : R} (hx : x ≠ 0) (hy : y ≠ 0) : x * y ≠ 0 := fun e => (h.1 x y e).elim hx hy
theorem mp_cancel {R : Type} [Lean.Grind.CommRing R] (h : mp_NZ R) {x y z : R} (hx : x ≠ 0) (e : x * y = x * z) : y = z := by
  have h1 : x * (y - z) = 0 := by grind
  rcases h.1 _ _ h1 with h2 | h2
  · exact absurd h2 hx
  · grind
theorem mp_D_rf {A : Type} [Lean.Grind.CommRing A] (a : A) : mp_D a a := ⟨1, by grind⟩
theorem mp_D_tr {A : Type} [Lean.Grind.CommRing A] {a b c : A} (h : mp_D a b) (h2 : mp_D b c) : mp_D a c := by
  obtain ⟨x, rfl⟩ := h
  obtain ⟨y, rfl⟩ := h2
  exact ⟨x * y, by grind⟩
theorem mp_D_0 {A : Type} [Lean.Grind.CommRing A] (a : A) : mp_D a 0 := ⟨0, by grind⟩
theorem mp_D_add {A : Type} [Lean.Grind.CommRing A] {a b c : A} (h : mp_D a b) (h2 : mp_D a c) : mp_D a (b + c) := by
  obtain ⟨x, rfl⟩ := h
  obtain ⟨y, rfl⟩ := h2
  exact ⟨x + y, by grind⟩
theorem mp_D_sub {A : Type} [Lean.Grind.CommRing A] {a b c : A} (h : mp_D a b) (h2 : mp_D a c) : mp_D a (b - c) := by
  obtain ⟨x, rfl⟩ := h
  obtain ⟨y, rfl⟩ := h2
  exact ⟨x - y, by grind⟩
theorem mp_D_neg {A : Type} [Lean.Grind.CommRing A] {a b : A} (h : mp_D a b) : mp_D a (-b) := by
  obtain ⟨x, rfl⟩ := h
  exact ⟨-x, by grind⟩
theorem mp_D_mul {A : Type} [Lean.Grind.CommRing A] {a b : A} (h : mp_D a b) (c : A) : mp_D a (b * c) := by
  obtain ⟨x, rfl⟩ := h
  exact ⟨x * c, by grind⟩
theorem mp_D_mul' {A : Type} [Lean.Grind.CommRing A] {a b : A} (h : mp_D a b) (c : A) : mp_D a (c * b) := by
  obtain ⟨x, rfl⟩ := h
  exact ⟨x * c, by grind⟩
theorem mp_D_S {A : Type} [Lean.Grind.CommRing A] {a : A} {f : Nat → A} : ∀ {n : Nat}, (∀ i, i < n → mp_D a (f i)) → mp_D a (mp_S n f)
  | 0, _ => mp_D_0 a
  | n + 1, h => mp_D_add (mp_D_S (fun i hi => h i (by omega))) (h n (by omega))
theorem mp_D_S_one {A : Type} [Lean.Grind.CommRing A] {a : A} {f : Nat → A} {k : Nat} : ∀ {n : Nat}, k < n → mp_D a (mp_S n f) → (∀ i, i < n → i ≠ k → mp_D a (f i)) → mp_D a (f k)
  | 0, h, _, _ => absurd h (Nat.not_lt_zero _)
  | n + 1, h, h1, h2 => by
    rw [mp_S_s] at h1
    by_cases hk : k = n
    · subst hk
      have := mp_D_sub h1 (mp_D_S (n := k) (fun i hi => h2 i (by omega) (by omega)))
      rw [show mp_S k f + f k - mp_S k f = f k by grind] at this
      exact this
    · have := mp_D_sub h1 (h2 n (by omega) (fun e => hk e.symm))
      rw [show mp_S n f + f n - f n = mp_S n f by grind] at this
      exact mp_D_S_one (k := k) (by omega) this (fun i hi => h2 i (by omega))
theorem mp_U_D {A : Type} [Lean.Grind.CommRing A] {a b : A} (h : mp_U a) : mp_D a b := by
  obtain ⟨c, hc⟩ := h
  exact ⟨c * b, by grind⟩
theorem mp_U_of_D {A : Type} [Lean.Grind.CommRing A] {a b : A} (h : mp_D a b) (hb : mp_U b) : mp_U a := by
  obtain ⟨c, rfl⟩ := h
  obtain ⟨d, hd⟩ := hb
  exact ⟨c * d, by grind⟩
theorem mp_U_mul {A : Type} [Lean.Grind.CommRing A] {a b : A} (ha : mp_U a) (hb : mp_U b) : mp_U (a * b) := by
  obtain ⟨c, hc⟩ := ha
  obtain ⟨d, hd⟩ := hb
  exact ⟨c * d, by grind⟩
theorem mp_U_1 {A : Type} [Lean.Grind.CommRing A] : mp_U (1 : A) := ⟨1, by grind⟩
section
variable {R A : Type}
theorem mp_lc_mul [Lean.Grind.CommRing R] [Lean.Grind.CommRing A] {cf : A → Nat → R} (H : mp_P cf) (hR : mp_NZ R) {a b : A} (ha : a ≠ 0) (hb : b ≠ 0) : mp_sz cf (a * b) + 1 = mp_sz cf a + mp_sz cf b ∧ mp_lc cf (a * b) = mp_lc cf a * mp_lc cf b := by
  obtain ⟨m, hm⟩ : ∃ m, mp_sz cf a = m + 1 := ⟨mp_sz cf a - 1, by have := mp_sz_pos H ha; omega⟩
  obtain ⟨n, hn⟩ : ∃ n, mp_sz cf b = n + 1 := ⟨mp_sz cf b - 1, by have := mp_sz_pos H hb; omega⟩
  have hc : cf (a * b) (m + n) = cf a m * cf b n := by
    rw [mp_mul H, mp_S_one (k := m) (by omega) (fun i hi hk => ?_), show m + n - m = n by omega]
    by_cases h : i < m
    · rw [mp_sz_out H (a := b) (by omega)]; grind
    · rw [mp_sz_out H (a := a) (by omega)]; grind
  have hne : cf (a * b) (m + n) ≠ 0 := by
    rw [hc]
    exact mp_nz_mul hR (mp_sz_top H hm) (mp_sz_top H hn)
  have hs : mp_sz cf (a * b) = m + n + 1 := by
    have h1 := mp_sz_mul_le H (a := a) (b := b) (m := m) (n := n) (by omega) (by omega)
    have h2 := mp_sz_lt H hne
    omega
  refine ⟨by omega, ?_⟩
  rw [mp_lc, mp_lc, mp_lc, hs, hm, hn]
  exact hc
theorem mp_sz_mul [Lean.Grind.CommRing R] [Lean.Grind.CommRing A] {cf : A → Nat → R} (H : mp_P cf) (hR : mp_NZ R) {a b : A} (ha : a ≠ 0) (hb : b ≠ 0) : mp_sz cf (a * b) + 1 = mp_sz cf a + mp_sz cf b := (mp_lc_mul H hR ha hb).1
theorem mp_dom [Lean.Grind.CommRing R] [Lean.Grind.CommRing A] {cf : A → Nat → R} (H : mp_P cf) (hR : mp_NZ R) : mp_NZ A := by
  refine ⟨fun x y h => ?_, fun h => ?_⟩
  · by_cases hx : x = 0
    · exact Or.inl hx
    · by_cases hy : y = 0
      · exact Or.inr hy
      · have h1 := mp_sz_mul H hR hx hy
        rw [h, (mp_sz_0 H).mpr rfl] at h1
        have := mp_sz_pos H hx
        have := mp_sz_pos H hy
        omega
  · have h1 := congrArg (fun a => cf a 0) h
    simp only [mp_one H, mp_zero H, if_true] at h1
    exact hR.2 h1
theorem mp_sz_CE [Lean.Grind.CommRing R] [Lean.Grind.CommRing A] {cf : A → Nat → R} (H : mp_P cf) {r : R} (h : r ≠ 0) : mp_sz cf (mp_C cf r) = 1 := mp_sz_eq H (n := 0) (fun j hj => by rw [mp_C_cf H, if_neg (by omega)]) (by rw [mp_C_cf H, if_pos rfl]; exact h)
theorem mp_C_ne [Lean.Grind.CommRing R] [Lean.Grind.CommRing A] {cf : A → Nat → R} (H : mp_P cf) {r : R} (h : r ≠ 0) : mp_C cf r ≠ 0 := fun e => h (mp_C_inj H (e.trans (mp_C_0 H).symm))
theorem mp_sz_Cmul [Lean.Grind.CommRing R] [Lean.Grind.CommRing A] {cf : A → Nat → R} (H : mp_P cf) (hR : mp_NZ R) {r : R} (h : r ≠ 0) (a : A) : mp_sz cf (mp_C cf r * a) = mp_sz cf a := by
  by_cases ha : a = 0
  · rw [ha, show mp_C cf r * 0 = 0 by grind]
  · have h1 := mp_sz_mul H hR (mp_C_ne H h) ha
    rw [mp_sz_CE H h] at h1
    omega
/-- division, the divided one times a power of the divisor's head -/
theorem mp_div [Lean.Grind.CommRing R] [Lean.Grind.CommRing A] {cf : A → Nat → R} (H : mp_P cf) (hR : mp_NZ R) {b : A} (hb : b ≠ 0) : ∀ (n : Nat) (a : A), mp_sz cf a ≤ n → ∃ (c : R) (q r : A), c ≠ 0 ∧ mp_C cf c * a = q * b + r ∧ mp_sz cf r < mp_sz cf b := by
  intro n
  induction n with
  | zero =>
    intro a ha
    refine ⟨1, 0, a, hR.2, by rw [mp_C_1 H]; grind, ?_⟩
    have := mp_sz_pos H hb
    omega
  | succ n ih =>
    intro a ha
    by_cases hlt : mp_sz cf a < mp_sz cf b
    · exact ⟨1, 0, a, hR.2, by rw [mp_C_1 H]; grind, hlt⟩
    · obtain ⟨m, hm⟩ : ∃ m, mp_sz cf b = m + 1 := ⟨mp_sz cf b - 1, by have := mp_sz_pos H hb; omega⟩
      obtain ⟨k, hk⟩ : ∃ k, mp_sz cf a = m + k + 1 := ⟨mp_sz cf a - 1 - m, by omega⟩
      have hl := mp_sz_top H hm
      obtain ⟨c, q, r, h1, h2, h3⟩ := ih (mp_C cf (cf b m) * a - mp_m cf (cf a (m + k)) k * b) (by
        refine mp_sz_le H (fun j hj => ?_)
        clear ih
        rw [mp_sub H, mp_C_mul H, mp_m_mul H]
        by_cases e : j = m + k
        · rw [e, if_pos (by omega), show m + k - k = m by omega]; grind
        · rw [mp_sz_out H (a := a) (by omega)]
          split
          · rw [mp_sz_out H (a := b) (n := j - k) (by omega)]; grind
          · grind)
      clear ih
      refine ⟨c * cf b m, q + mp_C cf c * mp_m cf (cf a (m + k)) k, r, mp_nz_mul hR h1 hl, ?_, h3⟩
      rw [mp_C_mulC H]
      grind
theorem mp_divF [Lean.Grind.CommRing R] [Lean.Grind.CommRing A] {cf : A → Nat → R} (H : mp_P cf) (hR : mp_Fd R) {b : A} (hb : b ≠ 0) (a : A) : ∃ (q r : A), a = q * b + r ∧ mp_sz cf r < mp_sz cf b := by
  obtain ⟨c, q, r, h1, h2, h3⟩ := mp_div H (mp_Fd_nz hR) hb _ a (Nat.le_refl _)
  obtain ⟨d, hd⟩ := hR.1 c h1
  have hcd : mp_C cf d * mp_C cf c = 1 := by rw [← mp_C_mulC H, show d * c = 1 by grind, mp_C_1 H]
  have hd0 : d ≠ 0 := fun e => hR.2 (by rw [← hd, e]; grind)
  refine ⟨mp_C cf d * q, mp_C cf d * r, by grind, ?_⟩
  rw [mp_sz_Cmul H (mp_Fd_nz hR) hd0]
  exact h3
/-- units of polynomials over a field -/
theorem mp_U_sz [Lean.Grind.CommRing R] [Lean.Grind.CommRing A] {cf : A → Nat → R} (H : mp_P cf) (hR : mp_NZ R) {a : A} (h : mp_U a) : mp_sz cf a = 1 := by
  obtain ⟨c, hc⟩ := h
  have h1 := (mp_dom H hR).2
  have ha : a ≠ 0 := fun e => h1 (by rw [← hc, e]; grind)
  have hc0 : c ≠ 0 := fun e => h1 (by rw [← hc, e]; grind)
  have h2 := mp_sz_mul H hR ha hc0
  rw [hc] at h2
  have h3 : mp_sz cf (1 : A) = 1 := by rw [← mp_C_1 H]; exact mp_sz_CE H hR.2
  have := mp_sz_pos H ha
  have := mp_sz_pos H hc0
  omega
theorem mp_U_C [Lean.Grind.CommRing R] [Lean.Grind.CommRing A] {cf : A → Nat → R} (H : mp_P cf) {r : R} (h : mp_U r) : mp_U (mp_C cf r) := by
  obtain ⟨s, hs⟩ := h
  exact ⟨mp_C cf s, by rw [← mp_C_mulC H, hs, mp_C_1 H]⟩
theorem mp_U_F [Lean.Grind.CommRing R] [Lean.Grind.CommRing A] {cf : A → Nat → R} (H : mp_P cf) (hR : mp_Fd R) {a : A} (h : mp_sz cf a = 1) : mp_U a := by
  rw [mp_sz_1 H (Nat.le_of_eq h)]
  exact mp_U_C H (hR.1 _ (mp_sz_top H (n := 0) h))
theorem mp_D_sz [Lean.Grind.CommRing R] [Lean.Grind.CommRing A] {cf : A → Nat → R} (H : mp_P cf) (hR : mp_NZ R) {a b : A} (h : mp_D a b) (hb : b ≠ 0) : mp_sz cf a ≤ mp_sz cf b := by
  obtain ⟨c, rfl⟩ := h
  have ha : a ≠ 0 := fun e => hb (by rw [e]; grind)
  have hc : c ≠ 0 := fun e => hb (by rw [e]; grind)
  have := mp_sz_mul H hR ha hc
  have := mp_sz_pos H hc
  omega
/-- a divisor of the same size -/
theorem mp_D_same [Lean.Grind.CommRing R] [Lean.Grind.CommRing A] {cf : A → Nat → R} (H : mp_P cf) (hR : mp_NZ R) {a b : A} (h : mp_D a b) (hb : b ≠ 0) (hs : mp_sz cf b ≤ mp_sz cf a) : ∃ r : R, r ≠ 0 ∧ b = mp_C cf r * a := by
  obtain ⟨c, rfl⟩ := h
  have ha : a ≠ 0 := fun e => hb (by rw [e]; grind)
  have hc : c ≠ 0 := fun e => hb (by rw [e]; grind)
  have h1 := mp_sz_mul H hR ha hc
  have h2 : mp_sz cf c = 1 := by have := mp_sz_pos H hc; omega
  have h3 := mp_sz_1 H (Nat.le_of_eq h2)
  refine ⟨cf c 0, mp_sz_top H h2, ?_⟩
  rw [← h3]
  grind
/-- the greatest common divisor over a field, as a sum of multiples -/
theorem mp_bez [Lean.Grind.CommRing R] [Lean.Grind.CommRing A] {cf : A → Nat → R} (H : mp_P cf) (hR : mp_Fd R) : ∀ (n : Nat) (a b : A), mp_sz cf b ≤ n → ∃ d u v : A, d = u * a + v * b ∧ mp_D d a ∧ mp_D d b := by
  intro n
  induction n with
  | zero =>
    intro a b hb
    have : b = 0 := (mp_sz_0 H).mp (by omega)
    exact ⟨a, 1, 0, by grind, mp_D_rf a, by rw [this]; exact mp_D_0 a⟩
  | succ n ih =>
    intro a b hb
    by_cases hz : b = 0
    · exact ⟨a, 1, 0, by grind, mp_D_rf a, by rw [hz]; exact mp_D_0 a⟩
    · obtain ⟨q, r, h1, h2⟩ := mp_divF H hR hz a
      obtain ⟨d, u, v, h3, h4, h5⟩ := ih b r (by omega)
      exact ⟨d, v, u - v * q, by grind, by rw [h1]; exact mp_D_add (mp_D_mul' h4 q) h5, h4⟩
end
/-- what can't be cut -/
def mp_Irr {A : Type} [Lean.Grind.CommRing A] (a : A) : Prop := a ≠ 0 ∧ ¬ mp_U a ∧ ∀ d, mp_D d a → mp_U d ∨ mp_D a d
def mp_Pr {A : Type} [Lean.Grind.CommRing A] (a : A) : Prop := a ≠ 0 ∧ ¬ mp_U a ∧ ∀ f g, mp_D a (f * g) → mp_D a f ∨ mp_D a g
section
variable {R A : Type}
theorem mp_prF [Lean.Grind.CommRing R] [Lean.Grind.CommRing A] {cf : A → Nat → R} (H : mp_P cf) (hR : mp_Fd R) {a : A} (h : mp_Irr a) : mp_Pr a := by
  refine ⟨h.1, h.2.1, fun f g hfg => ?_⟩
  obtain ⟨d, u, v, h1, h2, h3⟩ := mp_bez H hR _ a f (Nat.le_refl _)
  rcases h.2.2 d h2 with h4 | h4
  · right
    obtain ⟨e, he⟩ := h4
    have h5 : g = e * (u * a * g + v * (f * g)) := by grind
    rw [h5]
    exact mp_D_mul' (mp_D_add (mp_D_mul (mp_D_mul' (mp_D_rf a) u) g) (mp_D_mul' hfg v)) e
  · exact Or.inl (mp_D_tr h4 h3)
/-- every one that is not a unit has a prime divisor -/
theorem mp_irr_ex [Lean.Grind.CommRing R] [Lean.Grind.CommRing A] {cf : A → Nat → R} (H : mp_P cf) (hR : mp_Fd R) : ∀ (n : Nat) (a : A), mp_sz cf a ≤ n → 2 ≤ mp_sz cf a → ∃ d, mp_Irr d ∧ mp_D d a := by
  intro n
  induction n with
  | zero => intro a h1 h2; omega
  | succ n ih =>
    intro a h1 h2
    have ha : a ≠ 0 := fun e => by rw [(mp_sz_0 H).mpr e] at h2; omega
    have hu : ¬ mp_U a := fun e => by have := mp_U_sz H (mp_Fd_nz hR) e; omega
    by_cases hi : ∀ d, mp_D d a → mp_U d ∨ mp_D a d
    · exact ⟨a, ⟨ha, hu, hi⟩, mp_D_rf a⟩
    · obtain ⟨d, hd⟩ := Classical.not_forall.mp hi
      obtain ⟨hd1, hd2⟩ := Classical.not_imp.mp hd
      have hd3 : ¬ mp_U d := fun q => hd2 (Or.inl q)
      have hd4 : ¬ mp_D a d := fun q => hd2 (Or.inr q)
      have hs := mp_D_sz H (mp_Fd_nz hR) hd1 ha
      have hs2 : mp_sz cf d < mp_sz cf a := by
        rcases Nat.lt_or_ge (mp_sz cf d) (mp_sz cf a) with q | q
        · exact q
        · obtain ⟨r, hr, he⟩ := mp_D_same H (mp_Fd_nz hR) hd1 ha q
          obtain ⟨y, hy⟩ := hR.1 r hr
          exact absurd ⟨mp_C cf y, by rw [he, show mp_C cf r * d * mp_C cf y = mp_C cf r * mp_C cf y * d by grind, ← mp_C_mulC H, hy, mp_C_1 H]; grind⟩ hd4
      have hd0 : d ≠ 0 := fun e => by obtain ⟨c, hc⟩ := hd1; exact ha (by rw [hc, e]; grind)
      have hs3 : 2 ≤ mp_sz cf d := by
        rcases Nat.lt_or_ge (mp_sz cf d) 2 with q | q
        · have := mp_sz_pos H hd0
          exact absurd (mp_U_F H hR (by omega)) hd3
        · exact q
      obtain ⟨p, hp1, hp2⟩ := ih d (by omega) hs3
      exact ⟨p, hp1, mp_D_tr hp2 hd1⟩
/-- a constant divides when it divides each coefficient -/
theorem mp_C_D [Lean.Grind.CommRing R] [Lean.Grind.CommRing A] {cf : A → Nat → R} (H : mp_P cf) {c : R} {a : A} : mp_D (mp_C cf c) a ↔ ∀ n, mp_D c (cf a n) := by
  constructor
  · rintro ⟨b, rfl⟩ n
    exact ⟨cf b n, mp_C_mul H c b n⟩
  · intro h
    obtain ⟨N, hN⟩ := H.2.2.2.1 a
    have h2 : ∀ n, ∃ d, cf a n = c * d ∧ (N ≤ n → d = 0) := by
      intro n
      by_cases hn : N ≤ n
      · exact ⟨0, by rw [hN n hn]; grind, fun _ => rfl⟩
      · obtain ⟨d, hd⟩ := h n
        exact ⟨d, hd, fun q => absurd q hn⟩
    let f : Nat → R := fun n => Classical.choose (h2 n)
    have hf : ∀ n, cf a n = c * f n ∧ (N ≤ n → f n = 0) := fun n => Classical.choose_spec (h2 n)
    refine ⟨mp_mk cf f, mp_ext H (fun n => ?_)⟩
    rw [mp_C_mul H, mp_mk_cf H N (fun n hn => (hf n).2 hn)]
    exact (hf n).1
/-- Gauss: a prime number stays a prime -/
theorem mp_gauss [Lean.Grind.CommRing R] [Lean.Grind.CommRing A] {cf : A → Nat → R} (H : mp_P cf) {c : R} (hc : ∀ f g : R, mp_D c (f * g) → mp_D c f ∨ mp_D c g) {f g : A} (h : mp_D (mp_C cf c) (f * g)) : mp_D (mp_C cf c) f ∨ mp_D (mp_C cf c) g := by
  by_cases hf : mp_D (mp_C cf c) f
  · exact Or.inl hf
  · by_cases hg : mp_D (mp_C cf c) g
    · exact Or.inr hg
    · exfalso
      rw [mp_C_D H] at h hf hg
      obtain ⟨i0, hi0⟩ := Classical.not_forall.mp hf
      obtain ⟨j0, hj0⟩ := Classical.not_forall.mp hg
      obtain ⟨i, hi1, hi2⟩ := mp_least (fun n => ¬ mp_D c (cf f n)) i0 hi0
      obtain ⟨j, hj1, hj2⟩ := mp_least (fun n => ¬ mp_D c (cf g n)) j0 hj0
      have h1 := h (i + j)
      rw [mp_mul H] at h1
      have h2 := mp_D_S_one (k := i) (by omega) h1 (fun k hk hki => by
        by_cases hlt : k < i
        · exact mp_D_mul (Classical.byContradiction (fun q => absurd (hi2 k q) (by omega))) _
        · exact mp_D_mul' (Classical.byContradiction (fun q => absurd (hj2 _ q) (by omega))) _)
      rw [show i + j - i = j by omega] at h2
      rcases hc _ _ h2 with h3 | h3
      · exact hi1 h3
      · exact hj1 h3
end
end
section
/-! two letters: lowest terms, common divisors, primes -/
def mp_LT {A : Type} [Lean.Grind.CommRing A] (a b p q : A) : Prop := q ≠ 0 ∧ q * a = p * b ∧ ∀ p' q' : A, q' * a = p' * b → ∃ s, q' = q * s ∧ p' = p * s
def mp_G {A : Type} [Lean.Grind.CommRing A] (a b g : A) : Prop := mp_D g a ∧ mp_D g b ∧ ∀ d, mp_D d a → mp_D d b → mp_D d g
/-- only units divide both -/
def mp_Cp {A : Type} [Lean.Grind.CommRing A] (a b : A) : Prop := ∀ d, mp_D d a → mp_D d b → mp_U d
section
variable {R U A : Type}
theorem mp_strip [Lean.Grind.CommRing R] [Lean.Grind.CommRing U] [Lean.Grind.CommRing A] {cu : U → Nat → R} {ca : A → Nat → U} (hF : mp_Fd R) (HU : mp_P cu) (HA : mp_P ca) {p q : A} (hp : ∀ x : U, mp_Irr x → ¬ (mp_D (mp_C ca x) q ∧ mp_D (mp_C ca x) p)) : ∀ (n : Nat) (c : U) (s q' p' : A), mp_sz cu c ≤ n → c ≠ 0 → mp_C ca c * q' = q * s → mp_C ca c * p' = p * s → ∃ s', q' = q * s' ∧ p' = p * s' := by
  have hU := mp_dom HU (mp_Fd_nz hF)
  have hAd := mp_dom HA hU
  intro n
  induction n with
  | zero => intro c s q' p' h1 h2; exact absurd ((mp_sz_0 HU).mp (by omega)) h2
  | succ n ih =>
    intro c s q' p' h1 h2 h3 h4
    by_cases hu : mp_sz cu c = 1
    · obtain ⟨d, hd⟩ := mp_U_F HU hF hu
      have hcd : mp_C ca d * mp_C ca c = 1 := by rw [← mp_C_mulC HA, show d * c = 1 by grind, mp_C_1 HA]
      exact ⟨mp_C ca d * s, by grind, by grind⟩
    · have := mp_sz_pos HU h2
      obtain ⟨x, hx1, e, he⟩ := mp_irr_ex HU hF _ c (Nat.le_refl _) (by omega)
      have hx := mp_prF HU hF hx1
      have hce : mp_C ca c = mp_C ca x * mp_C ca e := by rw [he, mp_C_mulC HA]
      have hs : mp_D (mp_C ca x) s := by
        have g1 : mp_D (mp_C ca x) (q * s) := by rw [← h3, hce]; exact ⟨mp_C ca e * q', by grind⟩
        have g2 : mp_D (mp_C ca x) (p * s) := by rw [← h4, hce]; exact ⟨mp_C ca e * p', by grind⟩
        rcases mp_gauss HA hx.2.2 g1 with k1 | k1
        · rcases mp_gauss HA hx.2.2 g2 with k2 | k2
          · exact absurd ⟨k1, k2⟩ (hp x hx1)
          · exact k2
        · exact k1
      obtain ⟨s1, hs1⟩ := hs
      have he0 : e ≠ 0 := fun z => h2 (by rw [he, z]; grind)
      have hx0 : mp_C ca x ≠ 0 := mp_C_ne HA hx1.1
      have hsz := mp_sz_mul HU (mp_Fd_nz hF) hx1.1 he0
      rw [← he] at hsz
      have hx2 : 2 ≤ mp_sz cu x := by
        rcases Nat.lt_or_ge (mp_sz cu x) 2 with z | z
        · have := mp_sz_pos HU hx1.1
          exact absurd (mp_U_F HU hF (by omega)) hx1.2.1
        · exact z
      refine ih e s1 q' p' (by omega) he0 (mp_cancel hAd hx0 ?_) (mp_cancel hAd hx0 ?_)
      · clear ih; grind
      · clear ih; grind
theorem mp_lt_ex [Lean.Grind.CommRing R] [Lean.Grind.CommRing U] [Lean.Grind.CommRing A] {cu : U → Nat → R} {ca : A → Nat → U} (hF : mp_Fd R) (HU : mp_P cu) (HA : mp_P ca) (a : A) {b : A} (hb : b ≠ 0) : ∃ p q, mp_LT a b p q := by
  have hU := mp_dom HU (mp_Fd_nz hF)
  have hAd := mp_dom HA hU
  obtain ⟨n, ⟨q1, p1, hq1, hn1, he1⟩, hmin⟩ := mp_least (fun n => ∃ q p : A, q ≠ 0 ∧ mp_sz ca q = n ∧ q * a = p * b) _ ⟨b, a, hb, rfl, by grind⟩
  obtain ⟨k, ⟨q, p, hq, hn, he, hk⟩, hmin2⟩ := mp_least (fun k => ∃ q p : A, q ≠ 0 ∧ mp_sz ca q = n ∧ q * a = p * b ∧ mp_sz cu (mp_lc ca q) = k) _ ⟨q1, p1, hq1, hn1, he1, rfl⟩
  have prim : ∀ x : U, mp_Irr x → ¬ (mp_D (mp_C ca x) q ∧ mp_D (mp_C ca x) p) := by
    rintro x hx ⟨⟨q2, hq2⟩, ⟨p2, hp2⟩⟩
    have hx0 : mp_C ca x ≠ 0 := mp_C_ne HA hx.1
    have hq0 : q2 ≠ 0 := fun z => hq (by rw [hq2, z]; grind)
    have e2 : q2 * a = p2 * b := mp_cancel hAd hx0 (by grind)
    have hs := mp_sz_Cmul HA hU hx.1 q2
    rw [← hq2] at hs
    have hl := (mp_lc_mul HA hU hx0 hq0).2
    rw [← hq2] at hl
    have hlx : mp_lc ca (mp_C ca x) = x := by rw [mp_lc, mp_sz_CE HA hx.1, mp_C_cf HA]; rfl
    rw [hlx] at hl
    have hl2 := mp_sz_mul HU (mp_Fd_nz hF) hx.1 (mp_lc_ne HA hq0)
    rw [← hl, hk] at hl2
    have hx2 : 2 ≤ mp_sz cu x := by
      rcases Nat.lt_or_ge (mp_sz cu x) 2 with z | z
      · have := mp_sz_pos HU hx.1
        exact absurd (mp_U_F HU hF (by omega)) hx.2.1
      · exact z
    have := hmin2 _ ⟨q2, p2, hq0, by omega, e2, rfl⟩
    omega
  refine ⟨p, q, hq, he, fun p' q' h => ?_⟩
  obtain ⟨c, s, r, h1, h2, h3⟩ := mp_div HA hU hq _ q' (Nat.le_refl _)
  have h4 : r * a = (mp_C ca c * p' - s * p) * b := by grind
  have h5 : r = 0 := by
    by_cases hr : r = 0
    · exact hr
    · have := hmin _ ⟨r, _, hr, rfl, h4⟩
      omega
  rw [h5] at h4 h2
  have h6 : mp_C ca c * p' - s * p = 0 := by
    rcases hAd.1 (mp_C ca c * p' - s * p) b (by grind) with z | z
    · exact z
    · exact absurd z hb
  exact mp_strip hF HU HA prim _ c s q' p' (Nat.le_refl _) h1 (by grind) (by grind)
/-- what was divided out -/
theorem mp_lt_g [Lean.Grind.CommRing A] (hAd : mp_NZ A) {a b p q : A} (hb : b ≠ 0) (h : mp_LT a b p q) : ∃ g, g ≠ 0 ∧ a = p * g ∧ b = q * g ∧ mp_G a b g := by
  obtain ⟨hq, he, hg⟩ := h
  obtain ⟨g, h1, h2⟩ := hg a b (by grind)
  refine ⟨g, fun z => hb (by rw [h1, z]; grind), h2, h1, ⟨p, by grind⟩, ⟨q, by grind⟩, ?_⟩
  rintro d ⟨x, hx⟩ ⟨y, hy⟩
  have hd : d ≠ 0 := fun z => hb (by rw [hy, z]; grind)
  obtain ⟨s, h3, h4⟩ := hg x y (by grind)
  have hq0 : q * g = q * (d * s) := by rw [← h1, hy, h3]; grind
  exact ⟨s, mp_cancel hAd hq hq0⟩
theorem mp_g_ex [Lean.Grind.CommRing R] [Lean.Grind.CommRing U] [Lean.Grind.CommRing A] {cu : U → Nat → R} {ca : A → Nat → U} (hF : mp_Fd R) (HU : mp_P cu) (HA : mp_P ca) (a b : A) : ∃ g, mp_G a b g := by
  by_cases hb : b = 0
  · exact ⟨a, mp_D_rf a, by rw [hb]; exact mp_D_0 a, fun d h _ => h⟩
  · obtain ⟨p, q, h⟩ := mp_lt_ex hF HU HA a hb
    obtain ⟨g, -, -, -, h2⟩ := mp_lt_g (mp_dom HA (mp_dom HU (mp_Fd_nz hF))) hb h
    exact ⟨g, h2⟩
/-- where only units divide both, they are in lowest terms -/
theorem mp_cp_lt [Lean.Grind.CommRing R] [Lean.Grind.CommRing U] [Lean.Grind.CommRing A] {cu : U → Nat → R} {ca : A → Nat → U} (hF : mp_Fd R) (HU : mp_P cu) (HA : mp_P ca) {p q : A} (hq : q ≠ 0) (h : mp_Cp p q) : mp_LT p q p q := by
  obtain ⟨p0, q0, hl⟩ := mp_lt_ex hF HU HA p hq
  obtain ⟨g, hg0, h1, h2, -⟩ := mp_lt_g (mp_dom HA (mp_dom HU (mp_Fd_nz hF))) hq hl
  obtain ⟨u, hu⟩ := h g ⟨p0, by grind⟩ ⟨q0, by grind⟩
  refine ⟨hq, by grind, fun p' q' e => ?_⟩
  obtain ⟨s, h3, h4⟩ := hl.2.2 p' q' e
  exact ⟨u * s, by grind, by grind⟩
theorem mp_lt_cp [Lean.Grind.CommRing A] (hAd : mp_NZ A) {a b p q : A} (hb : b ≠ 0) (h : mp_LT a b p q) : mp_Cp p q := by
  obtain ⟨g, hg0, h1, h2, hG⟩ := mp_lt_g hAd hb h
  rintro d ⟨x, hx⟩ ⟨y, hy⟩
  obtain ⟨z, hz⟩ := hG.2.2 (d * g) ⟨x, by grind⟩ ⟨y, by grind⟩
  exact ⟨z, mp_cancel hAd hg0 (by grind)⟩
theorem mp_cp_sym [Lean.Grind.CommRing A] {p q : A} (h : mp_Cp p q) : mp_Cp q p := fun d h1 h2 => h d h2 h1
theorem mp_euclid [Lean.Grind.CommRing R] [Lean.Grind.CommRing U] [Lean.Grind.CommRing A] {cu : U → Nat → R} {ca : A → Nat → U} (hF : mp_Fd R) (HU : mp_P cu) (HA : mp_P ca) {p q r : A} (hq : q ≠ 0) (h : mp_Cp p q) (h2 : mp_D q (p * r)) : mp_D q r := by
  obtain ⟨w, hw⟩ := h2
  obtain ⟨s, h3, -⟩ := (mp_cp_lt hF HU HA hq h).2.2 w r (by grind)
  exact ⟨s, h3⟩
theorem mp_prA [Lean.Grind.CommRing R] [Lean.Grind.CommRing U] [Lean.Grind.CommRing A] {cu : U → Nat → R} {ca : A → Nat → U} (hF : mp_Fd R) (HU : mp_P cu) (HA : mp_P ca) {d : A} (h : mp_Irr d) : mp_Pr d := by
  refine ⟨h.1, h.2.1, fun f g hfg => ?_⟩
  by_cases hf : mp_D d f
  · exact Or.inl hf
  · refine Or.inr (mp_euclid hF HU HA h.1 (p := f) (fun e h1 h2 => ?_) hfg)
    rcases h.2.2 e h2 with z | z
    · exact z
    · exact absurd (mp_D_tr z h1) hf
/-- the size in both letters -/
noncomputable def mp_mu [Lean.Grind.CommRing R] [Lean.Grind.CommRing U] (cu : U → Nat → R) (ca : A → Nat → U) (a : A) : Nat := mp_sz ca a + mp_sz cu (mp_lc ca a)
theorem mp_mu_mul [Lean.Grind.CommRing R] [Lean.Grind.CommRing U] [Lean.Grind.CommRing A] {cu : U → Nat → R} {ca : A → Nat → U} (hF : mp_Fd R) (HU : mp_P cu) (HA : mp_P ca) {a b : A} (ha : a ≠ 0) (hb : b ≠ 0) : mp_mu cu ca (a * b) + 2 = mp_mu cu ca a + mp_mu cu ca b := by
  have hU := mp_dom HU (mp_Fd_nz hF)
  obtain ⟨h1, h2⟩ := mp_lc_mul HA hU ha hb
  have h3 := mp_sz_mul HU (mp_Fd_nz hF) (mp_lc_ne HA ha) (mp_lc_ne HA hb)
  rw [← h2] at h3
  simp only [mp_mu]
  omega
theorem mp_mu_2 [Lean.Grind.CommRing R] [Lean.Grind.CommRing U] [Lean.Grind.CommRing A] {cu : U → Nat → R} {ca : A → Nat → U} (HU : mp_P cu) (HA : mp_P ca) {a : A} (ha : a ≠ 0) : 2 ≤ mp_mu cu ca a := by
  have h1 := mp_sz_pos HA ha
  have h2 := mp_sz_pos HU (mp_lc_ne HA ha)
  simp only [mp_mu]
  omega
theorem mp_mu_U [Lean.Grind.CommRing R] [Lean.Grind.CommRing U] [Lean.Grind.CommRing A] {cu : U → Nat → R} {ca : A → Nat → U} (hF : mp_Fd R) (HU : mp_P cu) (HA : mp_P ca) {a : A} (ha : a ≠ 0) (h : mp_mu cu ca a = 2) : ∃ r : R, r ≠ 0 ∧ a = mp_C ca (mp_C cu r) := by
  have h1 := mp_sz_pos HA ha
  have h2 := mp_sz_pos HU (mp_lc_ne HA ha)
  simp only [mp_mu] at h
  have h3 : mp_sz ca a = 1 := by omega
  have h4 : mp_sz cu (mp_lc ca a) = 1 := by omega
  have h5 : mp_lc ca a = ca a 0 := by rw [mp_lc, h3]
  rw [h5] at h4
  refine ⟨cu (ca a 0) 0, mp_sz_top HU h4, ?_⟩
  rw [← mp_sz_1 HU (Nat.le_of_eq h4)]
  exact mp_sz_1 HA (Nat.le_of_eq h3)
theorem mp_CC_U [Lean.Grind.CommRing R] [Lean.Grind.CommRing U] [Lean.Grind.CommRing A] {cu : U → Nat → R} {ca : A → Nat → U} (hF : mp_Fd R) (HU : mp_P cu) (HA : mp_P ca) {r : R} (h : r ≠ 0) : mp_U (mp_C ca (mp_C cu r)) := mp_U_C HA (mp_U_C HU (hF.1 r h))
theorem mp_U_mu [Lean.Grind.CommRing R] [Lean.Grind.CommRing U] [Lean.Grind.CommRing A] {cu : U → Nat → R} {ca : A → Nat → U} (hF : mp_Fd R) (HU : mp_P cu) (HA : mp_P ca) {a : A} (h : mp_U a) : mp_mu cu ca a = 2 := by
  have hU := mp_dom HU (mp_Fd_nz hF)
  have hAd := mp_dom HA hU
  obtain ⟨c, hc⟩ := h
  have ha : a ≠ 0 := fun e => hAd.2 (by rw [← hc, e]; grind)
  have hc0 : c ≠ 0 := fun e => hAd.2 (by rw [← hc, e]; grind)
  have h1 := mp_mu_mul hF HU HA ha hc0
  rw [hc] at h1
  have h2 := mp_mu_2 HU HA ha
  have h3 := mp_mu_2 HU HA hc0
  have h4 : mp_mu cu ca (1 : A) = 2 := by
    have e1 : mp_sz ca (1 : A) = 1 := by rw [← mp_C_1 HA]; exact mp_sz_CE HA hU.2
    have e2 : mp_sz cu (1 : U) = 1 := by rw [← mp_C_1 HU]; exact mp_sz_CE HU hF.2
    rw [mp_mu, mp_lc, e1]
    rw [show ca (1 : A) (1 - 1) = 1 by rw [mp_one HA]; rfl, e2]
  omega
theorem mp_unit [Lean.Grind.CommRing R] [Lean.Grind.CommRing U] [Lean.Grind.CommRing A] {cu : U → Nat → R} {ca : A → Nat → U} (hF : mp_Fd R) (HU : mp_P cu) (HA : mp_P ca) {a : A} (h : mp_U a) : ∃ r : R, r ≠ 0 ∧ a = mp_C ca (mp_C cu r) := by
  have hAd := mp_dom HA (mp_dom HU (mp_Fd_nz hF))
  refine mp_mu_U hF HU HA (fun e => ?_) (mp_U_mu hF HU HA h)
  obtain ⟨c, hc⟩ := h
  exact hAd.2 (by rw [← hc, e]; grind)
theorem mp_irrA [Lean.Grind.CommRing R] [Lean.Grind.CommRing U] [Lean.Grind.CommRing A] {cu : U → Nat → R} {ca : A → Nat → U} (hF : mp_Fd R) (HU : mp_P cu) (HA : mp_P ca) : ∀ (n : Nat) (a : A), mp_mu cu ca a ≤ n → a ≠ 0 → ¬ mp_U a → ∃ d, mp_Irr d ∧ mp_D d a := by
  intro n
  induction n with
  | zero => intro a h1 h2; have := mp_mu_2 HU HA h2; omega
  | succ n ih =>
    intro a h1 h2 h3
    by_cases hi : ∀ d, mp_D d a → mp_U d ∨ mp_D a d
    · exact ⟨a, ⟨h2, h3, hi⟩, mp_D_rf a⟩
    · obtain ⟨d, hd⟩ := Classical.not_forall.mp hi
      obtain ⟨hd1, hd2⟩ := Classical.not_imp.mp hd
      have hd3 : ¬ mp_U d := fun q => hd2 (Or.inl q)
      have hd4 : ¬ mp_D a d := fun q => hd2 (Or.inr q)
      obtain ⟨e, he⟩ := id hd1
      have hd0 : d ≠ 0 := fun z => h2 (by rw [he, z]; grind)
      have he0 : e ≠ 0 := fun z => h2 (by rw [he, z]; grind)
      have hm := mp_mu_mul hF HU HA hd0 he0
      rw [← he] at hm
      have he3 : mp_mu cu ca e ≠ 2 := fun z => by
        obtain ⟨r, hr, hr2⟩ := mp_mu_U hF HU HA he0 z
        obtain ⟨y, hy⟩ := mp_CC_U hF HU HA hr
        rw [← hr2] at hy
        exact hd4 ⟨y, by rw [he]; clear ih; grind⟩
      have := mp_mu_2 HU HA he0
      obtain ⟨p, hp1, hp2⟩ := ih d (by omega) hd0 hd3
      exact ⟨p, hp1, mp_D_tr hp2 hd1⟩
/-- a common divisor that isn't a unit has a prime one -/
theorem mp_ncp [Lean.Grind.CommRing R] [Lean.Grind.CommRing U] [Lean.Grind.CommRing A] {cu : U → Nat → R} {ca : A → Nat → U} (hF : mp_Fd R) (HU : mp_P cu) (HA : mp_P ca) {a b : A} (hb : b ≠ 0) (h : ∀ d, mp_Pr d → mp_D d a → mp_D d b → False) : mp_Cp a b := by
  intro d h1 h2
  refine Classical.byContradiction (fun hu => ?_)
  have hd0 : d ≠ 0 := fun z => by obtain ⟨e, he⟩ := h2; exact hb (by rw [he, z]; grind)
  obtain ⟨p, hp1, hp2⟩ := mp_irrA hF HU HA _ d (Nat.le_refl _) hd0 hu
  exact h p (mp_prA hF HU HA hp1) (mp_D_tr hp2 h1) (mp_D_tr hp2 h2)
end
end
section
/-! values at a point, counting zeros, and a resultant by counting unknowns -/
section
variable {R A : Type}
noncomputable def mp_X [Lean.Grind.CommRing R] [Lean.Grind.CommRing A] (cf : A → Nat → R) (w : R) : A := mp_m cf 1 1 - mp_C cf w
theorem mp_X_cf [Lean.Grind.CommRing R] [Lean.Grind.CommRing A] {cf : A → Nat → R} (H : mp_P cf) (w : R) (n : Nat) : cf (mp_X cf w) n = if n = 1 then 1 else if n = 0 then -w else 0 := by
  rw [mp_X, mp_sub H, mp_m_cf H, mp_C_cf H]
  by_cases h1 : n = 1
  · subst h1; simp; grind
  · by_cases h0 : n = 0
    · subst h0; simp; grind
    · simp [h1, h0]; grind
theorem mp_X_sz [Lean.Grind.CommRing R] [Lean.Grind.CommRing A] {cf : A → Nat → R} (H : mp_P cf) (hR : mp_NZ R) (w : R) : mp_sz cf (mp_X cf w) = 2 := mp_sz_eq H (n := 1) (fun j hj => by rw [mp_X_cf H, if_neg (by omega), if_neg (by omega)]) (by rw [mp_X_cf H, if_pos rfl]; exact hR.2)
theorem mp_X_ne [Lean.Grind.CommRing R] [Lean.Grind.CommRing A] {cf : A → Nat → R} (H : mp_P cf) (hR : mp_NZ R) (w : R) : mp_X cf w ≠ 0 := fun e => by
  have := mp_X_sz H hR w
  rw [(mp_sz_0 H).mpr e] at this
  omega
/-- the shifted one: a = X * a1 + a(0) -/
theorem mp_unshift [Lean.Grind.CommRing R] [Lean.Grind.CommRing A] {cf : A → Nat → R} (H : mp_P cf) (a : A) : ∃ b : A, (∀ n, cf b n = cf a (n + 1)) ∧ a = mp_m cf 1 1 * b + mp_C cf (cf a 0) := by
  obtain ⟨N, hN⟩ := H.2.2.2.1 a
  obtain ⟨b, hb⟩ := H.2.2.2.2.1 (fun n => cf a (n + 1)) N (fun n hn => hN _ (by omega))
  refine ⟨b, hb, mp_ext H (fun n => ?_)⟩
  rw [mp_add H, mp_m_mul H, mp_C_cf H]
  by_cases h : n = 0
  · subst h; simp; grind
  · rw [if_pos (by omega), if_neg h, hb, show n - 1 + 1 = n by omega]; grind
theorem mp_ev_ex [Lean.Grind.CommRing R] [Lean.Grind.CommRing A] {cf : A → Nat → R} (H : mp_P cf) (w : R) : ∀ (n : Nat) (a : A), mp_sz cf a ≤ n → ∃ (r : R) (q : A), a = mp_X cf w * q + mp_C cf r := by
  intro n
  induction n with
  | zero =>
    intro a ha
    have : a = 0 := (mp_sz_0 H).mp (by omega)
    exact ⟨0, 0, by rw [this, mp_C_0 H]; grind⟩
  | succ n ih =>
    intro a ha
    obtain ⟨b, hb, he⟩ := mp_unshift H a
    obtain ⟨r, q, hq⟩ := ih b (mp_sz_le H (fun j hj => by rw [hb]; exact mp_sz_out H (by omega)))
    refine ⟨w * r + cf a 0, mp_m cf 1 1 * q + mp_C cf r, ?_⟩
    have hX : mp_m cf 1 1 = mp_X cf w + mp_C cf w := by rw [mp_X]; clear ih; grind
    rw [mp_C_add H, mp_C_mulC H]
    clear ih
    grind
noncomputable def mp_e [Lean.Grind.CommRing R] [Lean.Grind.CommRing A] (cf : A → Nat → R) (w : R) (a : A) : R := @Classical.epsilon R ⟨0⟩ (fun r => ∃ q, a = mp_X cf w * q + mp_C cf r)
theorem mp_e_q [Lean.Grind.CommRing R] [Lean.Grind.CommRing A] {cf : A → Nat → R} (H : mp_P cf) (w : R) (a : A) : ∃ q, a = mp_X cf w * q + mp_C cf (mp_e cf w a) :=
  @Classical.epsilon_spec R (fun r => ∃ q, a = mp_X cf w * q + mp_C cf r) (mp_ev_ex H w _ a (Nat.le_refl _))
theorem mp_e_of [Lean.Grind.CommRing R] [Lean.Grind.CommRing A] {cf : A → Nat → R} (H : mp_P cf) (hR : mp_NZ R) {w r : R} {a q : A} (h : a = mp_X cf w * q + mp_C cf r) : mp_e cf w a = r := by
  obtain ⟨q2, h2⟩ := mp_e_q H w a
  have h3 : mp_X cf w * (q - q2) = mp_C cf (mp_e cf w a - r) := by rw [mp_C_sub H]; grind
  by_cases hz : q - q2 = 0
  · rw [hz] at h3
    have h4 : mp_C cf (mp_e cf w a - r) = mp_C cf 0 := by rw [← h3, mp_C_0 H]; grind
    have h5 := mp_C_inj H h4
    grind
  · have h4 := mp_sz_mul H hR (mp_X_ne H hR w) hz
    have h5 := mp_sz_C H (mp_e cf w a - r)
    have h6 := mp_sz_pos H hz
    rw [h3, mp_X_sz H hR] at h4
    omega
theorem mp_e_add [Lean.Grind.CommRing R] [Lean.Grind.CommRing A] {cf : A → Nat → R} (H : mp_P cf) (hR : mp_NZ R) (w : R) (a b : A) : mp_e cf w (a + b) = mp_e cf w a + mp_e cf w b := by
  obtain ⟨q, hq⟩ := mp_e_q H w a
  obtain ⟨q2, hq2⟩ := mp_e_q H w b
  refine mp_e_of H hR (q := q + q2) ?_
  rw [mp_C_add H]
  grind
theorem mp_e_mul [Lean.Grind.CommRing R] [Lean.Grind.CommRing A] {cf : A → Nat → R} (H : mp_P cf) (hR : mp_NZ R) (w : R) (a b : A) : mp_e cf w (a * b) = mp_e cf w a * mp_e cf w b := by
  obtain ⟨q, hq⟩ := mp_e_q H w a
  obtain ⟨q2, hq2⟩ := mp_e_q H w b
  refine mp_e_of H hR (q := q * b + mp_C cf (mp_e cf w a) * q2) ?_
  rw [mp_C_mulC H]
  grind
theorem mp_e_C [Lean.Grind.CommRing R] [Lean.Grind.CommRing A] {cf : A → Nat → R} (H : mp_P cf) (hR : mp_NZ R) (w r : R) : mp_e cf w (mp_C cf r) = r := mp_e_of H hR (q := 0) (by grind)
theorem mp_e_0 [Lean.Grind.CommRing R] [Lean.Grind.CommRing A] {cf : A → Nat → R} (H : mp_P cf) (hR : mp_NZ R) (w : R) : mp_e cf w 0 = 0 := by rw [← mp_C_0 H, mp_e_C H hR]
theorem mp_e_1 [Lean.Grind.CommRing R] [Lean.Grind.CommRing A] {cf : A → Nat → R} (H : mp_P cf) (hR : mp_NZ R) (w : R) : mp_e cf w 1 = 1 := by rw [← mp_C_1 H, mp_e_C H hR]
theorem mp_e_X [Lean.Grind.CommRing R] [Lean.Grind.CommRing A] {cf : A → Nat → R} (H : mp_P cf) (hR : mp_NZ R) (w v : R) : mp_e cf w (mp_X cf v) = w - v := mp_e_of H hR (q := 1) (by rw [mp_X, mp_X, mp_C_sub H]; grind)
theorem mp_e_neg [Lean.Grind.CommRing R] [Lean.Grind.CommRing A] {cf : A → Nat → R} (H : mp_P cf) (hR : mp_NZ R) (w : R) (a : A) : mp_e cf w (-a) = - mp_e cf w a := by
  have h := mp_e_add H hR w a (-a)
  rw [show a + -a = 0 by grind, mp_e_0 H hR] at h
  grind
theorem mp_e_sub [Lean.Grind.CommRing R] [Lean.Grind.CommRing A] {cf : A → Nat → R} (H : mp_P cf) (hR : mp_NZ R) (w : R) (a b : A) : mp_e cf w (a - b) = mp_e cf w a - mp_e cf w b := by
  rw [show a - b = a + -b by grind, mp_e_add H hR, mp_e_neg H hR]
  grind
theorem mp_e_D [Lean.Grind.CommRing R] [Lean.Grind.CommRing A] {cf : A → Nat → R} (H : mp_P cf) (hR : mp_NZ R) (w : R) {a : A} (h : mp_e cf w a = 0) : mp_D (mp_X cf w) a := by
  obtain ⟨q, hq⟩ := mp_e_q H w a
  rw [h, mp_C_0 H] at hq
  exact ⟨q, by grind⟩
/-- Horner's step -/
theorem mp_e_horner [Lean.Grind.CommRing R] [Lean.Grind.CommRing A] {cf : A → Nat → R} (H : mp_P cf) (hR : mp_NZ R) (w : R) {a b : A} {k : Nat} (h : ∀ n, cf b n = cf a (n + 1)) : mp_e cf w a = mp_e cf w b * w + cf a 0 := by
  obtain ⟨b2, hb, he⟩ := mp_unshift H a
  have : b2 = b := mp_ext H (fun n => by rw [hb, h])
  subst this
  have hX : mp_m cf 1 1 = mp_X cf w + mp_C cf w := by rw [mp_X]; grind
  rw [he, mp_add H, mp_m_mul H, mp_C_cf H, mp_e_add H hR, mp_e_mul H hR, mp_e_C H hR, hX, mp_e_add H hR, mp_e_X H hR, mp_e_C H hR]
  simp
  grind
end
/-- how many below n -/
noncomputable def mp_ct (p : Nat → Prop) : Nat → Nat
  | 0 => 0
  | n + 1 => mp_ct p n + @ite Nat (p n) (Classical.propDecidable _) 1 0
theorem mp_ct_y {p : Nat → Prop} {n : Nat} (h : p n) : mp_ct p (n + 1) = mp_ct p n + 1 := by rw [mp_ct, if_pos h]
theorem mp_ct_n {p : Nat → Prop} {n : Nat} (h : ¬ p n) : mp_ct p (n + 1) = mp_ct p n := by rw [mp_ct, if_neg h]; rfl
theorem mp_ct_none {p : Nat → Prop} : ∀ {n : Nat}, (∀ i, i < n → ¬ p i) → mp_ct p n = 0
  | 0, _ => rfl
  | n + 1, h => by rw [mp_ct_n (h n (by omega)), mp_ct_none (fun i hi => h i (by omega))]
theorem mp_ct_but {p q : Nat → Prop} (k : Nat) : ∀ {n : Nat}, (∀ i, i < n → p i → q i ∨ i = k) → mp_ct p n ≤ mp_ct q n + (if k < n then 1 else 0)
  | 0, _ => by simp [mp_ct]
  | n + 1, h => by
    have ih := mp_ct_but (p := p) (q := q) k (n := n) (fun i hi => h i (by omega))
    by_cases hp : p n
    · rw [mp_ct_y hp]
      rcases h n (by omega) hp with g | g
      · rw [mp_ct_y g]
        by_cases hk : k < n
        · rw [if_pos hk] at ih; rw [if_pos (by omega)]; omega
        · rw [if_neg hk] at ih; split <;> omega
      · rw [← g] at ih ⊢
        rw [if_neg (by omega)] at ih
        rw [if_pos (by omega)]
        by_cases hq : q n
        · rw [mp_ct_y hq]; omega
        · rw [mp_ct_n hq]; omega
    · rw [mp_ct_n hp]
      have h2 : mp_ct q n ≤ mp_ct q (n + 1) := by
        by_cases hq : q n
        · rw [mp_ct_y hq]; omega
        · rw [mp_ct_n hq]; exact Nat.le_refl _
      by_cases hk : k < n
      · rw [if_pos hk] at ih; rw [if_pos (by omega)]; omega
      · rw [if_neg hk] at ih; split <;> omega
theorem mp_ct_not (p : Nat → Prop) : ∀ n, mp_ct p n + mp_ct (fun i => ¬ p i) n = n
  | 0 => rfl
  | n + 1 => by
    have := mp_ct_not p n
    by_cases h : p n
    · rw [mp_ct_y h, mp_ct_n (p := fun i => ¬ p i) (fun q => q h)]; omega
    · rw [mp_ct_n h, mp_ct_y (p := fun i => ¬ p i) h]; omega
section
variable {A : Type}
theorem mf_n_inj {i j : Nat} (hi : i < 32003) (hj : j < 32003) (h : mf_n i = mf_n j) : i = j := by
  have := congrArg Fin.val h
  simp only [mf_n, Fin.ofNat] at this
  rw [Nat.mod_eq_of_lt hi, Nat.mod_eq_of_lt hj] at this
  exact this
/-- zeros among the first n numbers -/
theorem mp_zeros [Lean.Grind.CommRing A] {cf : A → Nat → FP} (H : mp_P cf) {n : Nat} (hn : n ≤ 32003) : ∀ (k : Nat) (a : A), a ≠ 0 → mp_sz cf a ≤ k + 1 → mp_ct (fun i => mp_e cf (mf_n i) a = 0) n ≤ k := by
  have hR := mp_Fd_nz mp_FP
  intro k
  induction k with
  | zero =>
    intro a ha hs
    rw [mp_ct_none]
    · exact Nat.le_refl _
    · intro i hi h
      obtain ⟨q, hq⟩ := mp_e_D H hR _ h
      have hq0 : q ≠ 0 := fun z => ha (by rw [hq, z]; grind)
      have := mp_sz_mul H hR (mp_X_ne H hR (mf_n i)) hq0
      rw [← hq, mp_X_sz H hR] at this
      have := mp_sz_pos H hq0
      omega
  | succ k ih =>
    intro a ha hs
    by_cases hz : ∃ i, i < n ∧ mp_e cf (mf_n i) a = 0
    · obtain ⟨i, hi, h⟩ := hz
      obtain ⟨q, hq⟩ := mp_e_D H hR _ h
      have hq0 : q ≠ 0 := fun z => ha (by rw [hq, z]; grind)
      have h1 := mp_sz_mul H hR (mp_X_ne H hR (mf_n i)) hq0
      rw [← hq, mp_X_sz H hR] at h1
      have h2 := ih q hq0 (by omega)
      have h3 := mp_ct_but (p := fun i => mp_e cf (mf_n i) a = 0) (q := fun i => mp_e cf (mf_n i) q = 0) i (n := n) (fun j hj hj2 => by
        by_cases e : j = i
        · exact Or.inr e
        · left
          rw [hq, mp_e_mul H hR, mp_e_X H hR] at hj2
          rcases hR.1 _ _ hj2 with g | g
          · exact absurd (mf_n_inj (by omega) (by omega) (by grind)) e
          · exact g)
      rw [if_pos hi] at h3
      omega
    · rw [mp_ct_none (fun i hi h => hz ⟨i, hi, h⟩)]
      omega
end
/-! more unknowns than equations -/
theorem mp_S_upd {R : Type} [Lean.Grind.CommRing R] (h : Nat → R) (x : R) {k : Nat} : ∀ {n : Nat}, k < n → mp_S n (fun i => if i = k then x else h i) = mp_S n h - h k + x
  | 0, q => absurd q (Nat.not_lt_zero _)
  | n + 1, q => by
    rw [mp_S_s, mp_S_s]
    by_cases e : k = n
    · subst e
      rw [mp_S_cong (g := h) (fun i hi => by rw [if_neg (by omega)]), if_pos rfl]; grind
    · rw [mp_S_upd h x (n := n) (by omega), if_neg (by omega)]; grind
theorem mp_lin {R : Type} [Lean.Grind.CommRing R] (hR : mp_Fd R) : ∀ (M N : Nat) (f : Nat → Nat → R), M < N → ∃ c : Nat → R, (∃ k, k < N ∧ c k ≠ 0) ∧ ∀ e, e < M → mp_S N (fun k => c k * f k e) = 0 := by
  intro M
  induction M with
  | zero =>
    intro N f h
    exact ⟨fun _ => 1, ⟨0, h, hR.2⟩, fun e he => absurd he (Nat.not_lt_zero _)⟩
  | succ M ih =>
    intro N f h
    obtain ⟨n, rfl⟩ : ∃ n, N = n + 1 := ⟨N - 1, by omega⟩
    by_cases hz : ∃ k, k < n + 1 ∧ f k M ≠ 0
    · obtain ⟨k0, hk0, hne⟩ := hz
      let f2 : Nat → Nat → R := fun k => if k = k0 then f n else if k = n then f k0 else f k
      have hfn : f2 n = f k0 := by
        show (if n = k0 then f n else if n = n then f k0 else f n) = f k0
        by_cases e : n = k0
        · rw [if_pos e, e]
        · rw [if_neg e, if_pos rfl]
      obtain ⟨y, hy⟩ := hR.1 _ hne
      obtain ⟨c1, ⟨k1, hk1, hc1⟩, h1⟩ := ih n (fun k e => f2 k e - f2 k M * y * f k0 e) (by omega)
      have h1' : ∀ e, e < M + 1 → mp_S n (fun k => c1 k * (f2 k e - f2 k M * y * f k0 e)) = 0 := by
        intro e he
        by_cases hM : e = M
        · subst hM
          refine mp_S_zero (fun i _ => ?_)
          clear ih h1
          grind
        · exact h1 e (by omega)
      let c2 : Nat → R := fun k => if k = n then -mp_S n (fun k => c1 k * (f2 k M * y)) else c1 k
      have h2 : ∀ e, e < M + 1 → mp_S (n + 1) (fun k => c2 k * f2 k e) = 0 := by
        intro e he
        rw [mp_S_s, hfn]
        have e1 : mp_S n (fun k => c2 k * f2 k e) = mp_S n (fun k => c1 k * (f2 k e - f2 k M * y * f k0 e)) + mp_S n (fun k => c1 k * (f2 k M * y)) * f k0 e := by
          rw [← mp_S_mulr, ← mp_S_add]
          refine mp_S_cong (fun i hi => ?_)
          have : c2 i = c1 i := if_neg (by omega)
          rw [this]
          clear ih h1 h1'
          grind
        have e2 : c2 n = -mp_S n (fun k => c1 k * (f2 k M * y)) := if_pos rfl
        rw [e1, h1' e he, e2]
        clear ih h1 h1'
        grind
      let tau : Nat → Nat := fun k => if k = k0 then n else if k = n then k0 else k
      have hf : ∀ k, f k = f2 (tau k) := by
        intro k
        show f k = if tau k = k0 then f n else if tau k = n then f k0 else f (tau k)
        by_cases a : k = k0
        · have : tau k = n := if_pos a
          rw [this]
          by_cases b : n = k0
          · rw [if_pos b, a, b]
          · rw [if_neg b, if_pos rfl, a]
        · by_cases b : k = n
          · have : tau k = k0 := by show (if k = k0 then n else if k = n then k0 else k) = k0; rw [if_neg a, if_pos b]
            rw [this, if_pos rfl, b]
          · have : tau k = k := by show (if k = k0 then n else if k = n then k0 else k) = k; rw [if_neg a, if_neg b]
            rw [this, if_neg a, if_neg b]
      have hsw : ∀ g : Nat → R, mp_S (n + 1) (fun k => g (tau k)) = mp_S (n + 1) g := by
        intro g
        rw [mp_S_s, mp_S_s]
        by_cases e : k0 = n
        · have e1 : tau n = n := by show (if n = k0 then n else if n = n then k0 else n) = n; rw [if_pos e.symm]
          rw [e1]
          congr 1
          refine mp_S_cong (fun i hi => ?_)
          have : tau i = i := by show (if i = k0 then n else if i = n then k0 else i) = i; rw [if_neg (by omega), if_neg (by omega)]
          rw [this]
        · have e1 : tau n = k0 := by show (if n = k0 then n else if n = n then k0 else n) = k0; rw [if_neg (fun q => e q.symm), if_pos rfl]
          rw [e1, mp_S_cong (g := fun i => if i = k0 then g n else g i) (fun i hi => ?_), mp_S_upd g (g n) (by omega)]
          · clear ih h1 h1' h2; grind
          · by_cases a : i = k0
            · have : tau i = n := if_pos a
              rw [this, if_pos a]
            · have : tau i = i := by show (if i = k0 then n else if i = n then k0 else i) = i; rw [if_neg a, if_neg (by omega)]
              rw [this, if_neg a]
      refine ⟨fun k => c2 (tau k), ?_, fun e he => ?_⟩
      · have htt : tau (tau k1) = k1 := by
          by_cases a : k1 = k0
          · have : tau k1 = n := if_pos a
            rw [this]
            show (if n = k0 then n else if n = n then k0 else n) = k1
            rw [if_neg (by omega), if_pos rfl, a]
          · have : tau k1 = k1 := by show (if k1 = k0 then n else if k1 = n then k0 else k1) = k1; rw [if_neg a, if_neg (by omega)]
            rw [this, this]
        refine ⟨tau k1, ?_, ?_⟩
        · show (if k1 = k0 then n else if k1 = n then k0 else k1) < n + 1
          split
          · omega
          · split <;> omega
        · show c2 (tau (tau k1)) ≠ 0
          rw [htt]
          have : c2 k1 = c1 k1 := if_neg (by omega)
          rw [this]
          exact hc1
      · rw [← h2 e he, ← hsw (fun k => c2 k * f2 k e)]
        exact mp_S_cong (fun i _ => by rw [hf i])
    · obtain ⟨c, h1, h2⟩ := ih (n + 1) f (by omega)
      refine ⟨c, h1, fun e he => ?_⟩
      by_cases hM : e = M
      · subst hM
        refine mp_S_zero (fun i hi => ?_)
        have : f i e = 0 := Classical.byContradiction (fun q => hz ⟨i, hi, q⟩)
        rw [this]
        clear ih h2
        grind
      · exact h2 e (by omega)
end
section
/-! the other letter first; the points where a common divisor of images is the image of the common divisor -/
theorem mp_maxb : ∀ (n : Nat) (f : Nat → Nat), ∃ N, ∀ i, i < n → f i ≤ N
  | 0, _ => ⟨0, fun i h => absurd h (Nat.not_lt_zero _)⟩
  | n + 1, f => by
    obtain ⟨N, h⟩ := mp_maxb n f
    refine ⟨N + f n, fun i hi => ?_⟩
    by_cases e : i = n
    · rw [e]; omega
    · have := h i (by omega); omega
section
variable {R U A : Type}
noncomputable def mp_sw [Lean.Grind.CommRing R] [Lean.Grind.CommRing U] (cu : U → Nat → R) (ca : A → Nat → U) (a : A) (j : Nat) : U := mp_mk cu (fun i => cu (ca a i) j)
theorem mp_sw_cf [Lean.Grind.CommRing R] [Lean.Grind.CommRing U] [Lean.Grind.CommRing A] {cu : U → Nat → R} {ca : A → Nat → U} (HU : mp_P cu) (HA : mp_P ca) (a : A) (j i : Nat) : cu (mp_sw cu ca a j) i = cu (ca a i) j := by
  obtain ⟨N, hN⟩ := HA.2.2.2.1 a
  exact mp_mk_cf HU N (fun n hn => by rw [hN n hn, mp_zero HU]) i
theorem mp_xb [Lean.Grind.CommRing R] [Lean.Grind.CommRing U] [Lean.Grind.CommRing A] {cu : U → Nat → R} {ca : A → Nat → U} (HU : mp_P cu) (HA : mp_P ca) (a : A) : ∃ N, ∀ i, mp_sz cu (ca a i) ≤ N := by
  obtain ⟨M, hM⟩ := HA.2.2.2.1 a
  obtain ⟨N, hN⟩ := mp_maxb M (fun i => mp_sz cu (ca a i))
  refine ⟨N, fun i => ?_⟩
  by_cases h : i < M
  · exact hN i h
  · rw [hM i (by omega), (mp_sz_0 HU).mpr rfl]; omega
theorem mp_sw_P [Lean.Grind.CommRing R] [Lean.Grind.CommRing U] [Lean.Grind.CommRing A] {cu : U → Nat → R} {ca : A → Nat → U} (HU : mp_P cu) (HA : mp_P ca) : mp_P (mp_sw cu ca) := by
  refine ⟨fun a b h => ?_, fun a b n => ?_, fun a b n => ?_, fun a => ?_, fun g N hg => ?_, fun n => ?_⟩
  · refine mp_ext HA (fun i => mp_ext HU (fun j => ?_))
    rw [← mp_sw_cf HU HA, h, mp_sw_cf HU HA]
  · refine mp_ext HU (fun i => ?_)
    rw [mp_add HU, mp_sw_cf HU HA, mp_sw_cf HU HA, mp_sw_cf HU HA, mp_add HA, mp_add HU]
  · refine mp_ext HU (fun m => ?_)
    rw [mp_sw_cf HU HA, mp_mul HA, mp_sum HU, mp_sum HU]
    rw [mp_S_cong (g := fun k => mp_S (n + 1) (fun i => cu (ca a k) i * cu (ca b (m - k)) (n - i))) (fun k _ => mp_mul HU _ _ _), mp_S_swap]
    refine mp_S_cong (fun i _ => ?_)
    rw [mp_mul HU]
    exact mp_S_cong (fun k _ => by rw [mp_sw_cf HU HA, mp_sw_cf HU HA])
  · obtain ⟨N, hN⟩ := mp_xb HU HA a
    exact ⟨N, fun n hn => mp_ext HU (fun i => by rw [mp_sw_cf HU HA, mp_zero HU]; exact mp_sz_out HU (Nat.le_trans (hN i) hn))⟩
  · obtain ⟨M, hM⟩ := mp_maxb N (fun j => mp_sz cu (g j))
    have h1 : ∀ i j, cu (mp_mk cu (fun j => cu (g j) i)) j = cu (g j) i := fun i j => mp_mk_cf HU N (fun n hn => by rw [hg n hn, mp_zero HU]) j
    refine ⟨mp_mk ca (fun i => mp_mk cu (fun j => cu (g j) i)), fun n => mp_ext HU (fun i => ?_)⟩
    rw [mp_sw_cf HU HA, mp_mk_cf HA M (fun i hi => mp_ext HU (fun j => ?_)), h1]
    rw [h1, mp_zero HU]
    by_cases hj : j < N
    · exact mp_sz_out HU (Nat.le_trans (hM j hj) hi)
    · rw [hg j (by omega), mp_zero HU]
  · refine mp_ext HU (fun i => ?_)
    rw [mp_sw_cf HU HA, mp_one HA]
    by_cases hn : n = 0
    · rw [if_pos hn, mp_one HU]
      by_cases hi : i = 0
      · rw [if_pos hi, if_pos hi, mp_one HU, if_pos hn]
      · rw [if_neg hi, if_neg hi, mp_zero HU]
    · rw [if_neg hn, mp_zero HU]
      by_cases hi : i = 0
      · rw [if_pos hi, mp_one HU, if_neg hn]
      · rw [if_neg hi, mp_zero HU]
/-- the size in x -/
noncomputable def mp_xz [Lean.Grind.CommRing R] [Lean.Grind.CommRing U] (cu : U → Nat → R) (ca : A → Nat → U) (a : A) : Nat := mp_sz (mp_sw cu ca) a
theorem mp_xz_row [Lean.Grind.CommRing R] [Lean.Grind.CommRing U] [Lean.Grind.CommRing A] {cu : U → Nat → R} {ca : A → Nat → U} (HU : mp_P cu) (HA : mp_P ca) (a : A) (i : Nat) : mp_sz cu (ca a i) ≤ mp_xz cu ca a :=
  mp_sz_le HU (fun n hn => by rw [← mp_sw_cf HU HA, mp_sz_out (mp_sw_P HU HA) hn, mp_zero HU])
theorem mp_xz_le [Lean.Grind.CommRing R] [Lean.Grind.CommRing U] [Lean.Grind.CommRing A] {cu : U → Nat → R} {ca : A → Nat → U} (HU : mp_P cu) (HA : mp_P ca) {a : A} {N : Nat} (h : ∀ i, mp_sz cu (ca a i) ≤ N) : mp_xz cu ca a ≤ N :=
  mp_sz_le (mp_sw_P HU HA) (fun n hn => mp_ext HU (fun i => by rw [mp_sw_cf HU HA, mp_zero HU]; exact mp_sz_out HU (Nat.le_trans (h i) hn)))
theorem mp_xz_mul [Lean.Grind.CommRing R] [Lean.Grind.CommRing U] [Lean.Grind.CommRing A] {cu : U → Nat → R} {ca : A → Nat → U} (hF : mp_Fd R) (HU : mp_P cu) (HA : mp_P ca) {a b : A} (ha : a ≠ 0) (hb : b ≠ 0) : mp_xz cu ca (a * b) + 1 = mp_xz cu ca a + mp_xz cu ca b := mp_sz_mul (mp_sw_P HU HA) (mp_dom HU (mp_Fd_nz hF)) ha hb
theorem mp_xz_pos [Lean.Grind.CommRing R] [Lean.Grind.CommRing U] [Lean.Grind.CommRing A] {cu : U → Nat → R} {ca : A → Nat → U} (HU : mp_P cu) (HA : mp_P ca) {a : A} (ha : a ≠ 0) : 0 < mp_xz cu ca a := mp_sz_pos (mp_sw_P HU HA) ha
theorem mp_xz_C [Lean.Grind.CommRing R] [Lean.Grind.CommRing U] [Lean.Grind.CommRing A] {cu : U → Nat → R} {ca : A → Nat → U} (HU : mp_P cu) (HA : mp_P ca) (c : U) : mp_xz cu ca (mp_C ca c) = mp_sz cu c := by
  have h1 : mp_xz cu ca (mp_C ca c) ≤ mp_sz cu c := mp_xz_le HU HA (fun i => by
    rw [mp_C_cf HA]
    split
    · exact Nat.le_refl _
    · rw [(mp_sz_0 HU).mpr rfl]; omega)
  have h2 := mp_xz_row HU HA (mp_C ca c) 0
  rw [mp_C_cf HA, if_pos rfl] at h2
  omega
theorem mp_xz_some [Lean.Grind.CommRing R] [Lean.Grind.CommRing U] [Lean.Grind.CommRing A] {cu : U → Nat → R} {ca : A → Nat → U} (HU : mp_P cu) (HA : mp_P ca) {a : A} (ha : a ≠ 0) : ∃ i, i < mp_sz ca a ∧ mp_sz cu (ca a i) = mp_xz cu ca a := by
  refine Classical.byContradiction (fun hn => ?_)
  have hp := mp_xz_pos HU HA ha
  have h1 : mp_xz cu ca a ≤ mp_xz cu ca a - 1 := mp_xz_le HU HA (fun i => by
    have h2 := mp_xz_row HU HA a i
    by_cases hi : i < mp_sz ca a
    · have : mp_sz cu (ca a i) ≠ mp_xz cu ca a := fun e => hn ⟨i, hi, e⟩
      omega
    · rw [mp_sz_out HA (by omega), (mp_sz_0 HU).mpr rfl]; omega)
  omega
/-- one term -/
noncomputable def mp_mm [Lean.Grind.CommRing R] [Lean.Grind.CommRing U] [Lean.Grind.CommRing A] (cu : U → Nat → R) (ca : A → Nat → U) (i j : Nat) : A := mp_m ca (mp_m cu 1 j) i
theorem mp_mm_mul [Lean.Grind.CommRing R] [Lean.Grind.CommRing U] [Lean.Grind.CommRing A] {cu : U → Nat → R} {ca : A → Nat → U} (HU : mp_P cu) (HA : mp_P ca) (i j : Nat) (a : A) (k n : Nat) : cu (ca (mp_mm cu ca i j * a) k) n = if i ≤ k ∧ j ≤ n then cu (ca a (k - i)) (n - j) else 0 := by
  rw [mp_mm, mp_m_mul HA]
  by_cases h : i ≤ k
  · rw [if_pos h, mp_m_mul HU]
    by_cases h2 : j ≤ n
    · rw [if_pos h2, if_pos ⟨h, h2⟩]; grind
    · rw [if_neg h2, if_neg (fun q => h2 q.2)]
  · rw [if_neg h, if_neg (fun q => h q.1), mp_zero HU]
theorem mp_mm_cf [Lean.Grind.CommRing R] [Lean.Grind.CommRing U] [Lean.Grind.CommRing A] {cu : U → Nat → R} {ca : A → Nat → U} (HU : mp_P cu) (HA : mp_P ca) (i j k n : Nat) : cu (ca (mp_mm cu ca i j) k) n = if k = i ∧ n = j then 1 else 0 := by
  rw [mp_mm, mp_m_cf HA]
  by_cases h : k = i
  · rw [if_pos h, mp_m_cf HU]
    by_cases h2 : n = j
    · rw [if_pos h2, if_pos ⟨h, h2⟩]
    · rw [if_neg h2, if_neg (fun q => h2 q.2)]
  · rw [if_neg h, if_neg (fun q => h q.1), mp_zero HU]
theorem mp_CC_mul [Lean.Grind.CommRing R] [Lean.Grind.CommRing U] [Lean.Grind.CommRing A] {cu : U → Nat → R} {ca : A → Nat → U} (HU : mp_P cu) (HA : mp_P ca) (c : R) (a : A) (k n : Nat) : cu (ca (mp_C ca (mp_C cu c) * a) k) n = c * cu (ca a k) n := by
  rw [mp_C_mul HA, mp_C_mul HU]
set_option maxHeartbeats 4000000 in
/-- a line of x that is a sum of multiples of two polynomials that only units divide -/
theorem mp_res [Lean.Grind.CommRing R] [Lean.Grind.CommRing U] [Lean.Grind.CommRing A] {cu : U → Nat → R} {ca : A → Nat → U} (hF : mp_Fd R) (HU : mp_P cu) (HA : mp_P ca) {p q : A} (hc : mp_Cp p q) {m n D : Nat} (hm : mp_sz ca p = m + 1) (hn : mp_sz ca q = n + 1) (hp : mp_xz cu ca p ≤ D + 1) (hq : mp_xz cu ca q ≤ D + 1) : ∃ (u v : A) (r : U), r ≠ 0 ∧ u * p + v * q = mp_C ca r ∧ mp_sz cu r ≤ (m + n) * D + D + 1 := by
  have hU := mp_dom HU (mp_Fd_nz hF)
  have hAd := mp_dom HA hU
  have hp0 : p ≠ 0 := fun e => by rw [(mp_sz_0 HA).mpr e] at hm; omega
  have hq0 : q ≠ 0 := fun e => by rw [(mp_sz_0 HA).mpr e] at hn; omega
  have hpr := fun i => Nat.le_trans (mp_xz_row HU HA p i) hp
  have hqr := fun i => Nat.le_trans (mp_xz_row HU HA q i) hq
  by_cases hm0 : m = 0
  · subst hm0
    refine ⟨1, 0, ca p 0, mp_sz_top HA hm, ?_, ?_⟩
    · rw [← mp_sz_1 HA (Nat.le_of_eq hm)]; grind
    · have := hpr 0; omega
  by_cases hn0 : n = 0
  · subst hn0
    refine ⟨0, 1, ca q 0, mp_sz_top HA hn, ?_, ?_⟩
    · rw [← mp_sz_1 HA (Nat.le_of_eq hn)]; grind
    · have := hqr 0; omega
  obtain ⟨K, hK⟩ : ∃ K, K = (m + n) * D := ⟨_, rfl⟩
  obtain ⟨w, hw⟩ : ∃ w : Nat → A, w = fun k => if k / (K + 1) < n then mp_mm cu ca (k / (K + 1)) (k % (K + 1)) * p else mp_mm cu ca (k / (K + 1) - n) (k % (K + 1)) * q := ⟨_, rfl⟩
  have hwx : ∀ k i j, K + D + 1 ≤ j → cu (ca (w k) i) j = 0 := by
    intro k i j hj
    have hk : k % (K + 1) < K + 1 := Nat.mod_lt _ (by omega)
    rw [hw]
    dsimp only
    split
    · rw [mp_mm_mul HU HA]
      split
      · exact mp_sz_out HU (Nat.le_trans (hpr _) (by omega))
      · rfl
    · rw [mp_mm_mul HU HA]
      split
      · exact mp_sz_out HU (Nat.le_trans (hqr _) (by omega))
      · rfl
  have hwt : ∀ k i, k < (m + n) * (K + 1) → m + n ≤ i → ca (w k) i = 0 := by
    intro k i hk hi
    have h2 : k / (K + 1) < m + n := Nat.div_lt_of_lt_mul (by rw [Nat.mul_comm]; exact hk)
    rw [hw]
    dsimp only
    split
    · rw [mp_mm, mp_m_mul HA]
      split
      · rw [mp_sz_out HA (by omega)]; grind
      · rfl
    · rw [mp_mm, mp_m_mul HA]
      split
      · rw [mp_sz_out HA (by omega)]; grind
      · rfl
  obtain ⟨c, ⟨k0, hk0, hc0⟩, hsol⟩ := mp_lin hF ((m + n - 1) * (K + D + 1)) ((m + n) * (K + 1)) (fun k e => cu (ca (w k) (e / (K + D + 1) + 1)) (e % (K + D + 1))) (by
    obtain ⟨z, hz⟩ : ∃ z, m + n = z + 1 := ⟨m + n - 1, by omega⟩
    rw [hK, hz]
    simp only [Nat.add_sub_cancel, Nat.mul_add, Nat.add_mul, Nat.mul_one, Nat.one_mul]
    have : z * D ≤ z * D + D := by omega
    omega)
  have hwc : ∀ i j, cu (ca (mp_S ((m + n) * (K + 1)) (fun k => mp_C ca (mp_C cu (c k)) * w k)) i) j = mp_S ((m + n) * (K + 1)) (fun k => c k * cu (ca (w k) i) j) := by
    intro i j
    rw [mp_sum HA, mp_sum HU]
    exact mp_S_cong (fun k _ => mp_CC_mul HU HA _ _ _ _)
  have hW : ∀ i, 1 ≤ i → ca (mp_S ((m + n) * (K + 1)) (fun k => mp_C ca (mp_C cu (c k)) * w k)) i = 0 := by
    intro i hi
    refine mp_ext HU (fun j => ?_)
    rw [hwc, mp_zero HU]
    by_cases hj : K + D + 1 ≤ j
    · exact mp_S_zero (fun k _ => by rw [hwx k i j hj]; grind)
    · by_cases hi2 : m + n ≤ i
      · exact mp_S_zero (fun k hk => by rw [hwt k i hk hi2, mp_zero HU]; grind)
      · have h1 := hsol ((i - 1) * (K + D + 1) + j) (by
          have : (i - 1) + 1 ≤ m + n - 1 := by omega
          have h9 := Nat.mul_le_mul_right (K + D + 1) this
          rw [Nat.add_mul, Nat.one_mul] at h9
          omega)
        have e1 : ((i - 1) * (K + D + 1) + j) / (K + D + 1) = i - 1 := by
          rw [Nat.mul_comm, Nat.mul_add_div (by omega), Nat.div_eq_of_lt (by omega)]
          rfl
        have e2 : ((i - 1) * (K + D + 1) + j) % (K + D + 1) = j := by
          rw [Nat.mul_comm, Nat.mul_add_mod, Nat.mod_eq_of_lt (by omega)]
        rw [e1, e2, show i - 1 + 1 = i by omega] at h1
        exact h1
  have hWr := mp_sz_1 HA (mp_sz_le HA (M := 1) hW)
  obtain ⟨u, hu⟩ : ∃ u : A, u = mp_S ((m + n) * (K + 1)) (fun k => if k / (K + 1) < n then mp_C ca (mp_C cu (c k)) * mp_mm cu ca (k / (K + 1)) (k % (K + 1)) else 0) := ⟨_, rfl⟩
  obtain ⟨v, hv⟩ : ∃ v : A, v = mp_S ((m + n) * (K + 1)) (fun k => if k / (K + 1) < n then 0 else mp_C ca (mp_C cu (c k)) * mp_mm cu ca (k / (K + 1) - n) (k % (K + 1))) := ⟨_, rfl⟩
  have huv : u * p + v * q = mp_S ((m + n) * (K + 1)) (fun k => mp_C ca (mp_C cu (c k)) * w k) := by
    rw [hu, hv, ← mp_S_mulr, ← mp_S_mulr, ← mp_S_add]
    refine mp_S_cong (fun k _ => ?_)
    rw [hw]
    dsimp only
    split <;> grind
  have hcu : ∀ i j, cu (ca u i) j = mp_S ((m + n) * (K + 1)) (fun k => if k / (K + 1) < n ∧ i = k / (K + 1) ∧ j = k % (K + 1) then c k else 0) := by
    intro i j
    rw [hu, mp_sum HA, mp_sum HU]
    refine mp_S_cong (fun k _ => ?_)
    split
    · next h =>
      rw [mp_CC_mul HU HA, mp_mm_cf HU HA]
      by_cases h2 : i = k / (K + 1) ∧ j = k % (K + 1)
      · rw [if_pos h2, if_pos ⟨h, h2⟩]; grind
      · rw [if_neg h2, if_neg (fun z => h2 z.2)]; grind
    · next h => rw [if_neg (fun z => h z.1), mp_zero HA, mp_zero HU]
  have hcv : ∀ i j, cu (ca v i) j = mp_S ((m + n) * (K + 1)) (fun k => if ¬ k / (K + 1) < n ∧ i = k / (K + 1) - n ∧ j = k % (K + 1) then c k else 0) := by
    intro i j
    rw [hv, mp_sum HA, mp_sum HU]
    refine mp_S_cong (fun k _ => ?_)
    split
    · next h => rw [if_neg (fun z => z.1 h), mp_zero HA, mp_zero HU]
    · next h =>
      rw [mp_CC_mul HU HA, mp_mm_cf HU HA]
      by_cases h2 : i = k / (K + 1) - n ∧ j = k % (K + 1)
      · rw [if_pos h2, if_pos ⟨h, h2⟩]; grind
      · rw [if_neg h2, if_neg (fun z => h2 z.2)]; grind
  have hdm : ∀ k k' : Nat, k / (K + 1) = k' / (K + 1) → k % (K + 1) = k' % (K + 1) → k = k' := by
    intro k k' h1 h2
    rw [← Nat.div_add_mod k (K + 1), ← Nat.div_add_mod k' (K + 1), h1, h2]
  refine ⟨u, v, _, ?_, huv.trans hWr, ?_⟩
  · intro hr
    rw [hr, mp_C_0 HA] at hWr
    rw [hWr] at huv
    have hu0 : u = 0 := by
      refine Classical.byContradiction (fun hne => ?_)
      have hd : mp_D q u := mp_euclid hF HU HA hq0 hc (p := p) ⟨-v, by grind⟩
      have h1 := mp_D_sz HA hU hd hne
      have h2 : mp_sz ca u ≤ n := mp_sz_le HA (fun i hi => mp_ext HU (fun j => by
        rw [hcu, mp_zero HU]
        exact mp_S_zero (fun k _ => if_neg (by omega))))
      omega
    have hv0 : v = 0 := by
      rcases hAd.1 v q (by rw [hu0] at huv; grind) with z | z
      · exact z
      · exact absurd z hq0
    by_cases hkn : k0 / (K + 1) < n
    · have h1 := hcu (k0 / (K + 1)) (k0 % (K + 1))
      rw [hu0, mp_zero HA, mp_zero HU, mp_S_one (k := k0) hk0 (fun i _ hi => if_neg (fun z => hi (hdm _ _ z.2.1.symm z.2.2.symm))), if_pos ⟨hkn, rfl, rfl⟩] at h1
      exact hc0 h1.symm
    · have h1 := hcv (k0 / (K + 1) - n) (k0 % (K + 1))
      rw [hv0, mp_zero HA, mp_zero HU, mp_S_one (k := k0) hk0 (fun i _ hi => if_neg (fun z => hi (hdm _ _ (by have := z.1; have := z.2.1; omega) z.2.2.symm))), if_pos ⟨hkn, rfl, rfl⟩] at h1
      exact hc0 h1.symm
  · rw [← hK]
    exact mp_sz_le HU (fun j hj => by rw [hwc]; exact mp_S_zero (fun k _ => by rw [hwx k 0 j hj]; grind))
end
end
section
/-! images at a number for x, and what the divisor is pieced together to -/
section
variable {R U A : Type}
theorem mp_e_S [Lean.Grind.CommRing R] [Lean.Grind.CommRing A] {cf : A → Nat → R} (H : mp_P cf) (hR : mp_NZ R) (w : R) (f : Nat → A) : ∀ n, mp_e cf w (mp_S n f) = mp_S n (fun i => mp_e cf w (f i))
  | 0 => mp_e_0 H hR w
  | n + 1 => by rw [mp_S_s, mp_S_s, mp_e_add H hR, mp_e_S H hR w f n]
noncomputable def mp_im [Lean.Grind.CommRing R] [Lean.Grind.CommRing U] (cu : U → Nat → R) (ca : A → Nat → U) (w : R) (a : A) : U := mp_mk cu (fun n => mp_e cu w (ca a n))
theorem mp_im_cf [Lean.Grind.CommRing R] [Lean.Grind.CommRing U] [Lean.Grind.CommRing A] {cu : U → Nat → R} {ca : A → Nat → U} (hF : mp_Fd R) (HU : mp_P cu) (HA : mp_P ca) (w : R) (a : A) (n : Nat) : cu (mp_im cu ca w a) n = mp_e cu w (ca a n) := by
  obtain ⟨N, hN⟩ := HA.2.2.2.1 a
  exact mp_mk_cf HU N (fun n hn => by rw [hN n hn, mp_e_0 HU (mp_Fd_nz hF)]) n
theorem mp_im_add [Lean.Grind.CommRing R] [Lean.Grind.CommRing U] [Lean.Grind.CommRing A] {cu : U → Nat → R} {ca : A → Nat → U} (hF : mp_Fd R) (HU : mp_P cu) (HA : mp_P ca) (w : R) (a b : A) : mp_im cu ca w (a + b) = mp_im cu ca w a + mp_im cu ca w b :=
  mp_ext HU (fun n => by rw [mp_add HU, mp_im_cf hF HU HA, mp_im_cf hF HU HA, mp_im_cf hF HU HA, mp_add HA, mp_e_add HU (mp_Fd_nz hF)])
theorem mp_im_mul [Lean.Grind.CommRing R] [Lean.Grind.CommRing U] [Lean.Grind.CommRing A] {cu : U → Nat → R} {ca : A → Nat → U} (hF : mp_Fd R) (HU : mp_P cu) (HA : mp_P ca) (w : R) (a b : A) : mp_im cu ca w (a * b) = mp_im cu ca w a * mp_im cu ca w b :=
  mp_ext HU (fun n => by
    rw [mp_im_cf hF HU HA, mp_mul HA, mp_e_S HU (mp_Fd_nz hF), mp_mul HU]
    exact mp_S_cong (fun i _ => by rw [mp_e_mul HU (mp_Fd_nz hF), mp_im_cf hF HU HA, mp_im_cf hF HU HA]))
theorem mp_im_C [Lean.Grind.CommRing R] [Lean.Grind.CommRing U] [Lean.Grind.CommRing A] {cu : U → Nat → R} {ca : A → Nat → U} (hF : mp_Fd R) (HU : mp_P cu) (HA : mp_P ca) (w : R) (c : U) : mp_im cu ca w (mp_C ca c) = mp_C cu (mp_e cu w c) :=
  mp_ext HU (fun n => by
    rw [mp_im_cf hF HU HA, mp_C_cf HA, mp_C_cf HU]
    split
    · rfl
    · exact mp_e_0 HU (mp_Fd_nz hF) w)
theorem mp_im_D [Lean.Grind.CommRing R] [Lean.Grind.CommRing U] [Lean.Grind.CommRing A] {cu : U → Nat → R} {ca : A → Nat → U} (hF : mp_Fd R) (HU : mp_P cu) (HA : mp_P ca) (w : R) {a b : A} (h : mp_D a b) : mp_D (mp_im cu ca w a) (mp_im cu ca w b) := by
  obtain ⟨c, rfl⟩ := h
  exact ⟨mp_im cu ca w c, mp_im_mul hF HU HA w a c⟩
theorem mp_im_sz [Lean.Grind.CommRing R] [Lean.Grind.CommRing U] [Lean.Grind.CommRing A] {cu : U → Nat → R} {ca : A → Nat → U} (hF : mp_Fd R) (HU : mp_P cu) (HA : mp_P ca) {w : R} {a : A} (ha : a ≠ 0) (h : mp_e cu w (mp_lc ca a) ≠ 0) : mp_sz cu (mp_im cu ca w a) = mp_sz ca a := by
  obtain ⟨m, hm⟩ : ∃ m, mp_sz ca a = m + 1 := ⟨mp_sz ca a - 1, by have := mp_sz_pos HA ha; omega⟩
  rw [hm]
  rw [mp_lc, hm] at h
  exact mp_sz_eq HU (fun j hj => by rw [mp_im_cf hF HU HA, mp_sz_out HA (by omega), mp_e_0 HU (mp_Fd_nz hF)]) (by rw [mp_im_cf hF HU HA]; exact h)
/-- the head of a divisor stays where the head of the divided one does -/
theorem mp_lc_D [Lean.Grind.CommRing R] [Lean.Grind.CommRing U] [Lean.Grind.CommRing A] {cu : U → Nat → R} {ca : A → Nat → U} (hF : mp_Fd R) (HU : mp_P cu) (HA : mp_P ca) {w : R} {d a : A} (ha : a ≠ 0) (hd : mp_D d a) (h : mp_e cu w (mp_lc ca a) ≠ 0) : d ≠ 0 ∧ mp_D (mp_lc ca d) (mp_lc ca a) ∧ mp_e cu w (mp_lc ca d) ≠ 0 := by
  obtain ⟨c, rfl⟩ := hd
  have hd0 : d ≠ 0 := fun e => ha (by rw [e]; grind)
  have hc0 : c ≠ 0 := fun e => ha (by rw [e]; grind)
  have hl := (mp_lc_mul HA (mp_dom HU (mp_Fd_nz hF)) hd0 hc0).2
  refine ⟨hd0, ⟨mp_lc ca c, hl⟩, fun e => h ?_⟩
  rw [hl, mp_e_mul HU (mp_Fd_nz hF), e]
  grind
/-- a monic greatest common divisor, 0 of two 0s -/
def mq_mg [Lean.Grind.CommRing R] [Lean.Grind.CommRing U] (cu : U → Nat → R) (x y h : U) : Prop := mp_G x y h ∧ (h = 0 ∨ mp_lc cu h = 1)
/-- the monic content -/
def mq_ct [Lean.Grind.CommRing R] [Lean.Grind.CommRing U] [Lean.Grind.CommRing A] (cu : U → Nat → R) (ca : A → Nat → U) (a : A) (c : U) : Prop := mp_lc cu c = 1 ∧ mp_D (mp_C ca c) a ∧ ∀ d, mp_D (mp_C ca d) a → mp_D d c
theorem mq_lc_ne [Lean.Grind.CommRing R] [Lean.Grind.CommRing U] {cu : U → Nat → R} (hF : mp_Fd R) (HU : mp_P cu) {c : U} (h : mp_lc cu c = 1) : c ≠ 0 := fun e => hF.2 (by rw [← h, e, mp_lc, mp_zero HU])
/-- every common divisor is at most as long in t as that of the images -/
theorem mq_below [Lean.Grind.CommRing R] [Lean.Grind.CommRing U] [Lean.Grind.CommRing A] {cu : U → Nat → R} {ca : A → Nat → U} (hF : mp_Fd R) (HU : mp_P cu) (HA : mp_P ca) {a b : A} (ha : a ≠ 0) {w : R} {h : U} (hg : mq_mg cu (mp_im cu ca w a) (mp_im cu ca w b) h) (hh : mp_e cu w (mp_lc ca a) ≠ 0) : ∀ d, mp_D d a → mp_D d b → mp_sz ca d ≤ mp_sz cu h := by
  intro d h1 h2
  obtain ⟨hd0, -, h3⟩ := mp_lc_D hF HU HA ha h1 hh
  rw [← mp_im_sz hF HU HA hd0 h3]
  have h4 := hg.1.2.2 _ (mp_im_D hF HU HA w h1) (mp_im_D hF HU HA w h2)
  refine mp_D_sz HU (mp_Fd_nz hF) h4 (fun e => ?_)
  have h5 := hg.1.1
  rw [e] at h5
  obtain ⟨c, hc⟩ := h5
  have h6 := mp_im_sz hF HU HA ha hh
  rw [hc, show (0 : U) * c = 0 by grind, (mp_sz_0 HU).mpr rfl] at h6
  have := mp_sz_pos HA ha
  omega
/-- one that is as long as the images' divisor, and holds the whole content, is the greatest -/
theorem mq_found [Lean.Grind.CommRing R] [Lean.Grind.CommRing U] [Lean.Grind.CommRing A] {cu : U → Nat → R} {ca : A → Nat → U} (hF : mp_Fd R) (HU : mp_P cu) (HA : mp_P ca) {a b f p q : A} {c : U} (ha : a ≠ 0) (hc0 : c ≠ 0) (hc : ∀ d, mp_D (mp_C ca d) a → mp_D (mp_C ca d) b → mp_D d c) (hcf : mp_D (mp_C ca c) f) (hp : a = f * p) (hq : b = f * q) (hs : ∀ d, mp_D d a → mp_D d b → mp_sz ca d ≤ mp_sz ca f) : mp_Cp p q := by
  have hU := mp_dom HU (mp_Fd_nz hF)
  rintro d ⟨x, hx⟩ ⟨y, hy⟩
  have hf0 : f ≠ 0 := fun e => ha (by rw [hp, e]; grind)
  have hd0 : d ≠ 0 := fun e => ha (by rw [hp, hx, e]; grind)
  have h1 := hs (f * d) ⟨x, by grind⟩ ⟨y, by grind⟩
  have h2 := mp_sz_mul HA hU hf0 hd0
  have h3 := mp_sz_pos HA hd0
  have h4 := mp_sz_1 HA (a := d) (by omega)
  obtain ⟨z, hz⟩ := hcf
  have h5 : mp_D (c * ca d 0) c := by
    refine hc _ ?_ ?_
    · rw [mp_C_mulC HA, ← h4]; exact ⟨z * x, by grind⟩
    · rw [mp_C_mulC HA, ← h4]; exact ⟨z * y, by grind⟩
  obtain ⟨t, ht⟩ := h5
  rw [h4]
  exact mp_U_C HA ⟨t, mp_cancel hU hc0 (by grind)⟩
/-- the content, divided out -/
theorem mq_prim [Lean.Grind.CommRing R] [Lean.Grind.CommRing U] [Lean.Grind.CommRing A] {cu : U → Nat → R} {ca : A → Nat → U} (hF : mp_Fd R) (HU : mp_P cu) (HA : mp_P ca) {a a1 : A} {c : U} (h : mq_ct cu ca a c) (e : a = mp_C ca c * a1) : ∀ d, mp_D (mp_C ca d) a1 → mp_U d := by
  intro d ⟨y, hy⟩
  have hc0 := mq_lc_ne hF HU h.1
  obtain ⟨t, ht⟩ := h.2.2 (c * d) ⟨y, by rw [mp_C_mulC HA]; grind⟩
  exact ⟨t, mp_cancel (mp_dom HU (mp_Fd_nz hF)) hc0 (by grind)⟩
/-- a content there is -/
theorem mq_ct_ex [Lean.Grind.CommRing R] [Lean.Grind.CommRing U] [Lean.Grind.CommRing A] {cu : U → Nat → R} {ca : A → Nat → U} (hF : mp_Fd R) (HU : mp_P cu) (HA : mp_P ca) {a : A} (ha : a ≠ 0) : ∃ c, mq_ct cu ca a c := by
  have hU := mp_dom HU (mp_Fd_nz hF)
  have key : ∀ n, ∃ c, (∀ i, i < n → mp_D c (ca a i)) ∧ ∀ d, (∀ i, i < n → mp_D d (ca a i)) → mp_D d c := by
    intro n
    induction n with
    | zero => exact ⟨0, fun i h => absurd h (Nat.not_lt_zero _), fun d _ => mp_D_0 d⟩
    | succ n ih =>
      obtain ⟨c, h1, h2⟩ := ih
      obtain ⟨d, u, v, h3, h4, h5⟩ := mp_bez HU hF _ c (ca a n) (Nat.le_refl _)
      refine ⟨d, fun i hi => ?_, fun e he => ?_⟩
      · by_cases hn : i = n
        · rw [hn]; exact h5
        · exact mp_D_tr h4 (h1 i (by omega))
      · rw [h3]
        exact mp_D_add (mp_D_mul' (h2 e (fun i hi => he i (by omega))) u) (mp_D_mul' (he n (by omega)) v)
  obtain ⟨c, h1, h2⟩ := key (mp_sz ca a)
  have hc0 : c ≠ 0 := fun e => by
    have h3 := mp_sz_pos HA ha
    obtain ⟨y, hy⟩ := h1 (mp_sz ca a - 1) (by omega)
    exact mp_lc_ne HA ha (by rw [mp_lc, hy, e]; grind)
  obtain ⟨y, hy⟩ := hF.1 _ (mp_lc_ne HU hc0)
  have hy0 : y ≠ 0 := fun e => hF.2 (by rw [← hy, e]; grind)
  have hyu : mp_C cu y * mp_C cu (mp_lc cu c) = 1 := by rw [← mp_C_mulC HU, show y * mp_lc cu c = 1 by grind, mp_C_1 HU]
  refine ⟨mp_C cu y * c, ?_, (mp_C_D HA).mpr (fun n => ?_), fun d hd => ?_⟩
  · rw [(mp_lc_mul HU (mp_Fd_nz hF) (mp_C_ne HU hy0) hc0).2, show mp_lc cu (mp_C cu y) = y by rw [mp_lc, mp_sz_CE HU hy0, mp_C_cf HU]; rfl]
    grind
  · by_cases hn : n < mp_sz ca a
    · obtain ⟨z, hz⟩ := h1 n hn
      exact ⟨mp_C cu (mp_lc cu c) * z, by grind⟩
    · rw [mp_sz_out HA (by omega)]; exact mp_D_0 _
  · exact mp_D_mul' (h2 d (fun i _ => (mp_C_D HA).mp hd i)) _
theorem mq_gC [Lean.Grind.CommRing R] [Lean.Grind.CommRing U] [Lean.Grind.CommRing A] {cu : U → Nat → R} {ca : A → Nat → U} (hF : mp_Fd R) (HU : mp_P cu) (HA : mp_P ca) {c : U} {g a : A} (hc0 : c ≠ 0) (hg0 : g ≠ 0) (hg : ∀ d, mp_D (mp_C ca d) g → mp_U d) (h : mp_D g (mp_C ca c * a)) : mp_D g a := by
  have hU := mp_dom HU (mp_Fd_nz hF)
  refine mp_euclid hF HU HA hg0 (p := mp_C ca c) (fun d h1 h2 => ?_) h
  have hs := mp_D_sz HA hU h1 (mp_C_ne HA hc0)
  rw [mp_sz_CE HA hc0] at hs
  have he := mp_sz_1 HA hs
  rw [he] at h2 ⊢
  exact mp_U_C HA (hg _ h2)
set_option maxHeartbeats 4000000 in
/-- what find works towards -/
theorem mq_setup [Lean.Grind.CommRing R] [Lean.Grind.CommRing U] [Lean.Grind.CommRing A] {cu : U → Nat → R} {ca : A → Nat → U} (hF : mp_Fd R) (HU : mp_P cu) (HA : mp_P ca) {a b a1 b1 : A} {c1 c2 c lead : U} {m n D : Nat} (ha : a ≠ 0) (hb : b ≠ 0) (hc1 : mq_ct cu ca a c1) (hc2 : mq_ct cu ca b c2) (hc : mq_mg cu c1 c2 c) (ea : a = mp_C ca c1 * a1) (eb : b = mp_C ca c2 * b1) (hl : mq_mg cu (mp_lc ca a1) (mp_lc ca b1) lead)
    (hm : mp_sz ca a ≤ m + 1) (hn : mp_sz ca b ≤ n + 1) (hD1 : mp_xz cu ca a ≤ D + 1) (hD2 : mp_xz cu ca b ≤ D + 1) :
    ∃ (g h : A) (B : U), mp_D g a ∧ mp_D g b ∧ (∀ d, mp_D d a → mp_D d b → mp_D d g) ∧ g ≠ 0 ∧ mp_sz ca h = mp_sz ca g ∧ h ≠ 0 ∧ mp_xz cu ca h + 1 ≤ mp_xz cu ca a1 + mp_sz cu lead ∧ mp_xz cu ca h + 1 ≤ mp_xz cu ca b1 + mp_sz cu lead ∧
      (∀ w k, mp_e cu w (mp_lc ca a) ≠ 0 → mq_mg cu (mp_im cu ca w a) (mp_im cu ca w b) k → mp_sz cu k = mp_sz ca g → ∀ i, mp_e cu w lead * cu k i = mp_e cu w (ca h i)) ∧
      B ≠ 0 ∧ mp_sz cu B ≤ (m + n) * D + 3 * D + 1 ∧ (∀ w, mp_e cu w B ≠ 0 → mp_e cu w (mp_lc ca a) ≠ 0 ∧ mp_e cu w (mp_lc ca b) ≠ 0 ∧ ∀ k, mq_mg cu (mp_im cu ca w a) (mp_im cu ca w b) k → mp_sz cu k = mp_sz ca g) ∧
      (∀ k, mq_ct cu ca h k → ∃ f, mp_C ca k * f = mp_C ca c * h ∧ mp_D f a ∧ mp_D f b) := by
  have hU := mp_dom HU (mp_Fd_nz hF)
  have hAd := mp_dom HA hU
  obtain ⟨p, q, hlt⟩ := mp_lt_ex hF HU HA a hb
  obtain ⟨g, hg0, hpg, hqg, hG⟩ := mp_lt_g hAd hb hlt
  have hcp := mp_lt_cp hAd hb hlt
  obtain ⟨cg, hcg⟩ := mq_ct_ex hF HU HA hg0
  obtain ⟨g1, hg1⟩ := hcg.2.1
  have hprim := mq_prim hF HU HA hcg hg1
  have hcg0 := mq_lc_ne hF HU hcg.1
  have hc10 := mq_lc_ne hF HU hc1.1
  have hc20 := mq_lc_ne hF HU hc2.1
  have hg10 : g1 ≠ 0 := fun e => hg0 (by rw [hg1, e]; grind)
  have ha10 : a1 ≠ 0 := fun e => ha (by rw [ea, e]; grind)
  have hb10 : b1 ≠ 0 := fun e => hb (by rw [eb, e]; grind)
  have hga : mp_D g1 a1 := mq_gC hF HU HA hc10 hg10 hprim (by rw [← ea]; exact mp_D_tr ⟨mp_C ca cg, by grind⟩ hG.1)
  have hgb : mp_D g1 b1 := mq_gC hF HU HA hc20 hg10 hprim (by rw [← eb]; exact mp_D_tr ⟨mp_C ca cg, by grind⟩ hG.2.1)
  have hlg : mp_D (mp_lc ca g1) lead := by
    refine hl.1.2.2 _ ?_ ?_
    · obtain ⟨y, hy⟩ := hga
      have hy0 : y ≠ 0 := fun e => ha10 (by rw [hy, e]; grind)
      exact ⟨mp_lc ca y, by rw [hy]; exact (mp_lc_mul HA hU hg10 hy0).2⟩
    · obtain ⟨y, hy⟩ := hgb
      have hy0 : y ≠ 0 := fun e => hb10 (by rw [hy, e]; grind)
      exact ⟨mp_lc ca y, by rw [hy]; exact (mp_lc_mul HA hU hg10 hy0).2⟩
  obtain ⟨kap, hkap⟩ := hlg
  have hlead0 : lead ≠ 0 := fun e => by
    obtain ⟨y, hy⟩ := hl.1.1
    exact mp_lc_ne HA ha10 (by rw [hy, e]; grind)
  have hkap0 : kap ≠ 0 := fun e => hlead0 (by rw [hkap, e]; grind)
  have hp0 : p ≠ 0 := fun e => ha (by rw [hpg, e]; grind)
  have hq0 := hlt.1
  have hszg : mp_sz ca g = mp_sz ca g1 := by rw [hg1]; exact mp_sz_Cmul HA hU hcg0 g1
  have hszh : mp_sz ca (mp_C ca kap * g1) = mp_sz ca g := by rw [hszg]; exact mp_sz_Cmul HA hU hkap0 g1
  have hh0 : mp_C ca kap * g1 ≠ 0 := mp_nz_mul hAd (mp_C_ne HA hkap0) hg10
  have hxh := mp_xz_mul hF HU HA (mp_C_ne HA hkap0) hg10
  rw [mp_xz_C HU HA] at hxh
  have hsl := mp_sz_mul HU (mp_Fd_nz hF) (mp_lc_ne HA hg10) hkap0
  rw [← hkap] at hsl
  have hlg1 := mp_sz_pos HU (mp_lc_ne HA hg10)
  have hx1 : mp_xz cu ca g1 ≤ mp_xz cu ca a1 := mp_D_sz (mp_sw_P HU HA) hU hga ha10
  have hx2 : mp_xz cu ca g1 ≤ mp_xz cu ca b1 := mp_D_sz (mp_sw_P HU HA) hU hgb hb10
  obtain ⟨mp', hmp'⟩ : ∃ z, mp_sz ca p = z + 1 := ⟨mp_sz ca p - 1, by have := mp_sz_pos HA hp0; omega⟩
  obtain ⟨nq', hnq'⟩ : ∃ z, mp_sz ca q = z + 1 := ⟨mp_sz ca q - 1, by have := mp_sz_pos HA hq0; omega⟩
  have hDa : mp_D p a := ⟨g, hpg⟩
  have hDb : mp_D q b := ⟨g, hqg⟩
  have hs1 := mp_D_sz HA hU hDa ha
  have hs2 := mp_D_sz HA hU hDb hb
  have hx3 : mp_xz cu ca p ≤ mp_xz cu ca a := mp_D_sz (mp_sw_P HU HA) hU hDa ha
  have hx4 : mp_xz cu ca q ≤ mp_xz cu ca b := mp_D_sz (mp_sw_P HU HA) hU hDb hb
  obtain ⟨u, v, r, hr0, huv, hrs⟩ := mp_res hF HU HA hcp hmp' hnq' (D := D) (by omega) (by omega)
  have hlas : mp_sz cu (mp_lc ca a) ≤ D + 1 := Nat.le_trans (mp_xz_row HU HA a _) hD1
  have hlbs : mp_sz cu (mp_lc ca b) ≤ D + 1 := Nat.le_trans (mp_xz_row HU HA b _) hD2
  have hla0 := mp_lc_ne HA ha
  have hlb0 := mp_lc_ne HA hb
  have hUd := mp_Fd_nz hF
  have hlab0 := mp_nz_mul hU hla0 hlb0
  refine ⟨g, mp_C ca kap * g1, mp_lc ca a * mp_lc ca b * r, hG.1, hG.2.1, hG.2.2, hg0, hszh, hh0, by omega, by omega, ?_, mp_nz_mul hU hlab0 hr0, ?_, ?_, ?_⟩
  · intro w k hw hk hks i
    have hdg : mp_D g1 a := mp_D_tr ⟨mp_C ca cg, by grind⟩ hG.1
    have hdg2 : mp_D g1 b := mp_D_tr ⟨mp_C ca cg, by grind⟩ hG.2.1
    obtain ⟨-, -, h1⟩ := mp_lc_D hF HU HA ha hdg hw
    have h2 := hk.1.2.2 _ (mp_im_D hF HU HA w hdg) (mp_im_D hF HU HA w hdg2)
    have h3 := mp_im_sz hF HU HA hg10 h1
    have hk0 : k ≠ 0 := fun e => by
      rw [e, (mp_sz_0 HU).mpr rfl] at hks
      have := mp_sz_pos HA hg0
      omega
    obtain ⟨z, hz0, hz⟩ := mp_D_same HU hUd h2 hk0 (by omega)
    have hlk : mp_lc cu k = 1 := hk.2.resolve_left hk0
    have h4 : z * mp_e cu w (mp_lc ca g1) = 1 := by
      have h5 := hlk
      rw [mp_lc, hks, hszg, hz, mp_C_mul HU, mp_im_cf hF HU HA] at h5
      exact h5
    have h6 : cu k i = z * mp_e cu w (ca g1 i) := by rw [hz, mp_C_mul HU, mp_im_cf hF HU HA]
    rw [h6, mp_C_mul HA, mp_e_mul HU hUd, hkap, mp_e_mul HU hUd]
    grind
  · have h1 := mp_sz_mul HU hUd hla0 hlb0
    have h2 := mp_sz_mul HU hUd hlab0 hr0
    have h3 : (mp' + nq') * D ≤ (m + n) * D := Nat.mul_le_mul_right D (by omega)
    omega
  · intro w hw
    rw [mp_e_mul HU hUd, mp_e_mul HU hUd] at hw
    have w1 : mp_e cu w (mp_lc ca a) ≠ 0 := fun e => hw (by rw [e]; grind)
    have w2 : mp_e cu w (mp_lc ca b) ≠ 0 := fun e => hw (by rw [e]; grind)
    have w3 : mp_e cu w r ≠ 0 := fun e => hw (by rw [e]; grind)
    refine ⟨w1, w2, fun k hk => ?_⟩
    have h1 := mq_below hF HU HA ha hk w1 g hG.1 hG.2.1
    obtain ⟨-, -, w4⟩ := mp_lc_D hF HU HA ha hG.1 w1
    have h2 := mp_im_sz hF HU HA hg0 w4
    obtain ⟨y, hy⟩ := hF.1 _ w3
    have e1 : mp_im cu ca w u * mp_im cu ca w p + mp_im cu ca w v * mp_im cu ca w q = mp_C cu (mp_e cu w r) := by
      rw [← mp_im_mul hF HU HA, ← mp_im_mul hF HU HA, ← mp_im_add hF HU HA, huv, mp_im_C hF HU HA]
    have e2 : mp_im cu ca w a = mp_im cu ca w p * mp_im cu ca w g := by rw [hpg, mp_im_mul hF HU HA]
    have e3 : mp_im cu ca w b = mp_im cu ca w q * mp_im cu ca w g := by rw [hqg, mp_im_mul hF HU HA]
    have e4 : mp_C cu y * mp_C cu (mp_e cu w r) = 1 := by rw [← mp_C_mulC HU, show y * mp_e cu w r = 1 by grind, mp_C_1 HU]
    have e5 : mp_im cu ca w g = mp_C cu y * (mp_im cu ca w u * mp_im cu ca w a + mp_im cu ca w v * mp_im cu ca w b) := by grind
    have h3 : mp_D k (mp_im cu ca w g) := by
      rw [e5]
      exact mp_D_mul' (mp_D_add (mp_D_mul' hk.1.1 _) (mp_D_mul' hk.1.2.1 _)) _
    have hig : mp_im cu ca w g ≠ 0 := fun e => by
      rw [e, (mp_sz_0 HU).mpr rfl] at h2
      have := mp_sz_pos HA hg0
      omega
    have h4 := mp_D_sz HU hUd h3 hig
    omega
  · intro k hk
    have hk0 := mq_lc_ne hF HU hk.1
    obtain ⟨x, hx⟩ := hk.2.2 kap ⟨g1, rfl⟩
    have hx0 : x ≠ 0 := fun e => hk0 (by rw [hx, e]; grind)
    have hy : mp_D (mp_C ca x) g1 := by
      obtain ⟨z, hz⟩ := hk.2.1
      refine ⟨z, mp_cancel hAd (mp_C_ne HA hkap0) ?_⟩
      rw [hz, hx, mp_C_mulC HA]
      grind
    obtain ⟨y, hxy⟩ := hprim x hy
    have hxy2 : mp_C ca x * mp_C ca y = 1 := by rw [← mp_C_mulC HA, hxy, mp_C_1 HA]
    obtain ⟨d1, hd1⟩ := hc.1.1
    obtain ⟨d2, hd2⟩ := hc.1.2.1
    obtain ⟨z1, hz1⟩ := hga
    obtain ⟨z2, hz2⟩ := hgb
    refine ⟨mp_C ca y * (mp_C ca c * g1), ?_, ⟨mp_C ca x * mp_C ca d1 * z1, ?_⟩, ⟨mp_C ca x * mp_C ca d2 * z2, ?_⟩⟩
    · rw [hx, mp_C_mulC HA]; grind
    · rw [ea, hd1, hz1, mp_C_mulC HA]; grind
    · rw [eb, hd2, hz2, mp_C_mulC HA]; grind
end
end
section
/-! there are such rings -/
theorem mr_conv_tl {R : Type} [Lean.Grind.CommRing R] (f g : Nat → R) (n : Nat) : mp_S (n + 2) (fun i => f i * g (n + 1 - i)) = f 0 * g (n + 1) + mp_S (n + 1) (fun i => f (i + 1) * g (n - i)) := by
  rw [mp_S_first]
  congr 1
  exact mp_S_cong (fun i hi => by rw [show n + 1 - (i + 1) = n - i by omega])
def mr_mul {R : Type} [Lean.Grind.CommRing R] (f g : Nat → R) : Nat → R := fun n => mp_S (n + 1) (fun i => f i * g (n - i))
theorem mr_mul_0 {R : Type} [Lean.Grind.CommRing R] (f g : Nat → R) : mr_mul f g 0 = f 0 * g 0 := by
  show mp_S 1 _ = _
  rw [mp_S_s, mp_S_0]
  simp
  grind
theorem mr_mul_s {R : Type} [Lean.Grind.CommRing R] (f g : Nat → R) (n : Nat) : mr_mul f g (n + 1) = f 0 * g (n + 1) + mr_mul (fun i => f (i + 1)) g n := mr_conv_tl f g n
theorem mr_mul_add {R : Type} [Lean.Grind.CommRing R] (f g h : Nat → R) (n : Nat) : mr_mul f (fun i => g i + h i) n = mr_mul f g n + mr_mul f h n := by
  show mp_S _ _ = mp_S _ _ + mp_S _ _
  rw [← mp_S_add]
  exact mp_S_cong (fun i _ => by grind)
theorem mr_add_mul {R : Type} [Lean.Grind.CommRing R] (f g h : Nat → R) (n : Nat) : mr_mul (fun i => f i + g i) h n = mr_mul f h n + mr_mul g h n := by
  show mp_S _ _ = mp_S _ _ + mp_S _ _
  rw [← mp_S_add]
  exact mp_S_cong (fun i _ => by grind)
theorem mr_comm {R : Type} [Lean.Grind.CommRing R] (f g : Nat → R) (n : Nat) : mr_mul f g n = mr_mul g f n := by
  show mp_S _ _ = mp_S _ _
  rw [mp_S_rev]
  exact mp_S_cong (fun i hi => by rw [show n + 1 - 1 - i = n - i by omega, show n - (n - i) = i by omega]; grind)
theorem mr_smul {R : Type} [Lean.Grind.CommRing R] (c : R) (f g : Nat → R) (n : Nat) : mr_mul (fun i => c * f i) g n = c * mr_mul f g n := by
  show mp_S _ _ = c * mp_S _ _
  rw [← mp_S_mul]
  exact mp_S_cong (fun i _ => by grind)
theorem mr_assoc {R : Type} [Lean.Grind.CommRing R] : ∀ (n : Nat) (f g h : Nat → R), mr_mul (mr_mul f g) h n = mr_mul f (mr_mul g h) n
  | 0, f, g, h => by rw [mr_mul_0, mr_mul_0, mr_mul_0, mr_mul_0]; grind
  | n + 1, f, g, h => by
    rw [mr_mul_s, mr_mul_s f, mr_mul_0, ← mr_assoc n]
    have e : (fun i => mr_mul f g (i + 1)) = fun i => (f 0 * g (i + 1)) + mr_mul (fun j => f (j + 1)) g i := funext (fun i => mr_mul_s f g i)
    rw [e, mr_add_mul, mr_smul, mr_mul_s g]
    grind
theorem mr_one {R : Type} [Lean.Grind.CommRing R] (f : Nat → R) (n : Nat) : mr_mul (fun i => if i = 0 then 1 else 0) f n = f n := by
  show mp_S _ _ = _
  rw [mp_S_one (k := 0) (by omega) (fun i _ hi => by dsimp only; rw [if_neg hi]; grind)]
  simp
  grind
theorem mr_bd {R : Type} [Lean.Grind.CommRing R] {f g : Nat → R} {M N : Nat} (hf : ∀ n, M ≤ n → f n = 0) (hg : ∀ n, N ≤ n → g n = 0) : ∀ n, M + N ≤ n → mr_mul f g n = 0 := by
  intro n hn
  refine mp_S_zero (fun i hi => ?_)
  by_cases h : M ≤ i
  · rw [hf i h]; grind
  · rw [hg (n - i) (by omega)]; grind
abbrev mr_T (R : Type) [Lean.Grind.CommRing R] : Type := { f : Nat → R // ∃ N, ∀ n, N ≤ n → f n = 0 }
def mr_c {R : Type} [Lean.Grind.CommRing R] (c : R) : mr_T R := ⟨fun n => if n = 0 then c else 0, 1, fun n hn => if_neg (by omega)⟩
def mr_a {R : Type} [Lean.Grind.CommRing R] (f g : mr_T R) : mr_T R := ⟨fun n => f.1 n + g.1 n, by
  obtain ⟨M, hM⟩ := f.2
  obtain ⟨N, hN⟩ := g.2
  exact ⟨M + N, fun n hn => by dsimp only; rw [hM n (by omega), hN n (by omega)]; grind⟩⟩
def mr_n {R : Type} [Lean.Grind.CommRing R] (f : mr_T R) : mr_T R := ⟨fun n => -f.1 n, by
  obtain ⟨M, hM⟩ := f.2
  exact ⟨M, fun n hn => by dsimp only; rw [hM n hn]; grind⟩⟩
def mr_m {R : Type} [Lean.Grind.CommRing R] (f g : mr_T R) : mr_T R := ⟨mr_mul f.1 g.1, by
  obtain ⟨M, hM⟩ := f.2
  obtain ⟨N, hN⟩ := g.2
  exact ⟨M + N, mr_bd hM hN⟩⟩
def mr_pow {R : Type} [Lean.Grind.CommRing R] (f : mr_T R) : Nat → mr_T R
  | 0 => mr_c (0 + 1)
  | n + 1 => mr_m (mr_pow f n) f
def mr_nR {R : Type} [Lean.Grind.CommRing R] : Nat → R
  | 0 => 0
  | n + 1 => mr_nR n + 1
def mr_iR {R : Type} [Lean.Grind.CommRing R] : Int → R
  | .ofNat n => mr_nR n
  | .negSucc n => -mr_nR (n + 1)
theorem mr_iR_neg {R : Type} [Lean.Grind.CommRing R] (i : Int) : mr_iR (R := R) (-i) = -mr_iR i := by
  cases i with
  | ofNat n =>
    cases n with
    | zero =>
      show (0 : R) = -0
      grind
    | succ n => rfl
  | negSucc n =>
    show mr_nR (n + 1) = - -mr_nR (n + 1)
    grind
theorem mr_ext {R : Type} [Lean.Grind.CommRing R] {f g : mr_T R} (h : ∀ n, f.1 n = g.1 n) : f = g := Subtype.ext (funext h)
theorem mr_c_mul {R : Type} [Lean.Grind.CommRing R] (c : R) (f : Nat → R) (n : Nat) : mr_mul (fun i => if i = 0 then c else 0) f n = c * f n := by
  show mp_S _ _ = _
  rw [mp_S_one (k := 0) (by omega) (fun i _ hi => by dsimp only; rw [if_neg hi]; grind)]
  simp
def mr_ring (R : Type) [Lean.Grind.CommRing R] : Lean.Grind.CommRing (mr_T R) where
  add := mr_a
  mul := mr_m
  neg := mr_n
  sub f g := mr_a f (mr_n g)
  natCast := ⟨fun n => mr_c (mr_nR n)⟩
  ofNat n := ⟨mr_c (mr_nR n)⟩
  intCast := ⟨fun n => mr_c (mr_iR n)⟩
  nsmul := ⟨fun n f => mr_m (mr_c (mr_nR n)) f⟩
  zsmul := ⟨fun n f => mr_m (mr_c (mr_iR n)) f⟩
  npow := ⟨mr_pow⟩
  add_zero f := mr_ext (fun n => by
    show f.1 n + (if n = 0 then (0 : R) else 0) = f.1 n
    split <;> grind)
  add_comm f g := mr_ext (fun n => by
    show f.1 n + g.1 n = g.1 n + f.1 n
    grind)
  add_assoc f g h := mr_ext (fun n => by
    show f.1 n + g.1 n + h.1 n = f.1 n + (g.1 n + h.1 n)
    grind)
  mul_assoc f g h := mr_ext (fun n => mr_assoc n f.1 g.1 h.1)
  mul_one f := mr_ext (fun n => by
    show mr_mul f.1 (fun i => if i = 0 then (0 + 1 : R) else 0) n = f.1 n
    rw [mr_comm, mr_c_mul]
    grind)
  one_mul f := mr_ext (fun n => by
    show mr_mul (fun i => if i = 0 then (0 + 1 : R) else 0) f.1 n = f.1 n
    rw [mr_c_mul]
    grind)
  left_distrib f g h := mr_ext (fun n => mr_mul_add f.1 g.1 h.1 n)
  right_distrib f g h := mr_ext (fun n => mr_add_mul f.1 g.1 h.1 n)
  zero_mul f := mr_ext (fun n => by
    show mr_mul (fun i => if i = 0 then (0 : R) else 0) f.1 n = if n = 0 then (0 : R) else 0
    rw [mr_c_mul]
    split <;> grind)
  mul_zero f := mr_ext (fun n => by
    show mr_mul f.1 (fun i => if i = 0 then (0 : R) else 0) n = if n = 0 then (0 : R) else 0
    rw [mr_comm, mr_c_mul]
    split <;> grind)
  pow_zero f := rfl
  pow_succ f n := rfl
  ofNat_succ a := mr_ext (fun n => by
    show (if n = 0 then mr_nR a + 1 else (0 : R)) = (if n = 0 then mr_nR a else 0) + (if n = 0 then (0 + 1 : R) else 0)
    split <;> grind)
  ofNat_eq_natCast a := rfl
  nsmul_eq_natCast_mul a f := rfl
  neg_add_cancel f := mr_ext (fun n => by
    show -f.1 n + f.1 n = if n = 0 then (0 : R) else 0
    split <;> grind)
  sub_eq_add_neg f g := rfl
  intCast_ofNat a := rfl
  intCast_neg a := mr_ext (fun n => by
    show (if n = 0 then mr_iR (-a) else (0 : R)) = -(if n = 0 then mr_iR a else 0)
    rw [mr_iR_neg]
    split <;> grind)
  neg_zsmul a f := mr_ext (fun n => by
    show mr_mul (fun i => if i = 0 then mr_iR (-a) else (0 : R)) f.1 n = -mr_mul (fun i => if i = 0 then mr_iR a else (0 : R)) f.1 n
    rw [mr_c_mul, mr_c_mul, mr_iR_neg]
    grind)
  zsmul_natCast_eq_nsmul a f := rfl
  mul_comm f g := mr_ext (fun n => mr_comm f.1 g.1 n)
theorem mr_ex (R : Type) [Lean.Grind.CommRing R] : ∃ (A : Type) (_ : Lean.Grind.CommRing A) (cf : A → Nat → R), mp_P cf := by
  refine ⟨mr_T R, mr_ring R, fun f => f.1, ?_⟩
  refine ⟨fun a b h => mr_ext h, fun a b n => rfl, fun a b n => rfl, fun a => a.2, fun g N hg => ⟨⟨g, N, hg⟩, fun _ => rfl⟩, fun n => ?_⟩
  show (if n = 0 then (0 + 1 : R) else 0) = if n = 0 then 1 else 0
  split <;> grind
end
section
/-! derivations; a polynomial without squares, its special part -/
section
variable {R A : Type}
noncomputable def md_d [Lean.Grind.CommRing R] [Lean.Grind.CommRing A] (cf : A → Nat → R) (a : A) : A := mp_mk cf (fun n => mr_nR (n + 1) * cf a (n + 1))
theorem md_cf [Lean.Grind.CommRing R] [Lean.Grind.CommRing A] {cf : A → Nat → R} (H : mp_P cf) (a : A) (n : Nat) : cf (md_d cf a) n = mr_nR (n + 1) * cf a (n + 1) := by
  obtain ⟨N, hN⟩ := H.2.2.2.1 a
  exact mp_mk_cf H N (fun n hn => by rw [hN _ (by omega)]; grind) n
theorem mr_nR_add [Lean.Grind.CommRing R] (m : Nat) : ∀ n, mr_nR (R := R) (m + n) = mr_nR m + mr_nR n
  | 0 => by show mr_nR m = mr_nR m + 0; grind
  | n + 1 => by show mr_nR (m + n) + 1 = mr_nR m + (mr_nR n + 1); rw [mr_nR_add m n]; grind
theorem mr_nR_FP : ∀ n, mr_nR (R := FP) n = mf_n n
  | 0 => rfl
  | n + 1 => by show mr_nR n + 1 = mf_n (n + 1); rw [mr_nR_FP n, mf_n_add]; rfl
theorem mr_nR_C [Lean.Grind.CommRing R] [Lean.Grind.CommRing A] {cf : A → Nat → R} (H : mp_P cf) : ∀ n, mr_nR (R := A) n = mp_C cf (mr_nR n)
  | 0 => (mp_C_0 H).symm
  | n + 1 => by show mr_nR n + 1 = mp_C cf (mr_nR n + 1); rw [mr_nR_C H n, mp_C_add H, mp_C_1 H]
theorem md_add [Lean.Grind.CommRing R] [Lean.Grind.CommRing A] {cf : A → Nat → R} (H : mp_P cf) (a b : A) : md_d cf (a + b) = md_d cf a + md_d cf b := mp_ext H (fun n => by rw [mp_add H, md_cf H, md_cf H, md_cf H, mp_add H]; grind)
theorem md_mul [Lean.Grind.CommRing R] [Lean.Grind.CommRing A] {cf : A → Nat → R} (H : mp_P cf) (a b : A) : md_d cf (a * b) = md_d cf a * b + a * md_d cf b := mp_ext H (fun n => by
  rw [mp_add H, md_cf H, mp_mul H, mp_mul H, mp_mul H, ← mp_S_mul]
  have e1 : mp_S (n + 1 + 1) (fun i => mr_nR (n + 1) * (cf a i * cf b (n + 1 - i))) = mp_S (n + 1 + 1) (fun i => mr_nR i * cf a i * cf b (n + 1 - i)) + mp_S (n + 1 + 1) (fun i => cf a i * (mr_nR (n + 1 - i) * cf b (n + 1 - i))) := by
    rw [← mp_S_add]
    refine mp_S_cong (fun i hi => ?_)
    have h : mr_nR (R := R) (n + 1) = mr_nR i + mr_nR (n + 1 - i) := by rw [← mr_nR_add, show i + (n + 1 - i) = n + 1 by omega]
    rw [h]
    grind
  rw [e1, mp_S_first (fun i => mr_nR i * cf a i * cf b (n + 1 - i)), mp_S_s (n + 1) (fun i => cf a i * (mr_nR (n + 1 - i) * cf b (n + 1 - i)))]
  have e2 : mp_S (n + 1) (fun i => mr_nR (i + 1) * cf a (i + 1) * cf b (n + 1 - (i + 1))) = mp_S (n + 1) (fun i => cf (md_d cf a) i * cf b (n - i)) := mp_S_cong (fun i hi => by rw [md_cf H, show n + 1 - (i + 1) = n - i by omega])
  have e3 : mp_S (n + 1) (fun i => cf a i * (mr_nR (n + 1 - i) * cf b (n + 1 - i))) = mp_S (n + 1) (fun i => cf a i * cf (md_d cf b) (n - i)) := mp_S_cong (fun i hi => by rw [md_cf H, show n - i + 1 = n + 1 - i by omega])
  rw [e2, e3, show n + 1 - (n + 1) = 0 by omega]
  have e4 : mr_nR (R := R) 0 = 0 := rfl
  rw [e4]
  grind)
theorem md_C [Lean.Grind.CommRing R] [Lean.Grind.CommRing A] {cf : A → Nat → R} (H : mp_P cf) (r : R) : md_d cf (mp_C cf r) = 0 := mp_ext H (fun n => by rw [md_cf H, mp_C_cf H, mp_zero H, if_neg (by omega)]; grind)
theorem md_0 [Lean.Grind.CommRing R] [Lean.Grind.CommRing A] {cf : A → Nat → R} (H : mp_P cf) : md_d cf 0 = 0 := by
  have h := md_C H 0
  rw [mp_C_0 H] at h
  exact h
theorem md_sz [Lean.Grind.CommRing R] [Lean.Grind.CommRing A] {cf : A → Nat → R} (H : mp_P cf) {a : A} {n : Nat} (h : mp_sz cf a ≤ n + 1) : mp_sz cf (md_d cf a) ≤ n := mp_sz_le H (fun j hj => by rw [md_cf H, mp_sz_out H (by omega)]; grind)
theorem md_S [Lean.Grind.CommRing R] [Lean.Grind.CommRing A] {cf : A → Nat → R} (H : mp_P cf) (f : Nat → A) : ∀ n, md_d cf (mp_S n f) = mp_S n (fun i => md_d cf (f i))
  | 0 => md_0 H
  | n + 1 => by rw [mp_S_s, mp_S_s, md_add H, md_S H f n]
end
section
variable {U A : Type}
/-- the derivation by x of a polynomial in both -/
noncomputable def md_x [Lean.Grind.CommRing U] [Lean.Grind.CommRing A] (cu : U → Nat → FP) (ca : A → Nat → U) (a : A) : A := mp_mk ca (fun n => md_d cu (ca a n))
theorem md_x_cf [Lean.Grind.CommRing U] [Lean.Grind.CommRing A] {cu : U → Nat → FP} {ca : A → Nat → U} (HU : mp_P cu) (HA : mp_P ca) (a : A) (n : Nat) : ca (md_x cu ca a) n = md_d cu (ca a n) := by
  obtain ⟨N, hN⟩ := HA.2.2.2.1 a
  exact mp_mk_cf HA N (fun n hn => by rw [hN n hn, md_0 HU]) n
theorem md_x_mul [Lean.Grind.CommRing U] [Lean.Grind.CommRing A] {cu : U → Nat → FP} {ca : A → Nat → U} (HU : mp_P cu) (HA : mp_P ca) (a b : A) : md_x cu ca (a * b) = md_x cu ca a * b + a * md_x cu ca b := mp_ext HA (fun n => by
  rw [mp_add HA, md_x_cf HU HA, mp_mul HA, mp_mul HA, mp_mul HA, md_S HU, ← mp_S_add]
  exact mp_S_cong (fun i _ => by rw [md_mul HU, md_x_cf HU HA, md_x_cf HU HA]))
/-- the derivation, times what is below in that of t -/
noncomputable def md_E [Lean.Grind.CommRing U] [Lean.Grind.CommRing A] (cu : U → Nat → FP) (ca : A → Nat → U) (sB : U) (W : A) (a : A) : A := mp_C ca sB * md_x cu ca a + W * md_d ca a
theorem md_E_mul [Lean.Grind.CommRing U] [Lean.Grind.CommRing A] {cu : U → Nat → FP} {ca : A → Nat → U} (HU : mp_P cu) (HA : mp_P ca) (sB : U) (W a b : A) : md_E cu ca sB W (a * b) = md_E cu ca sB W a * b + a * md_E cu ca sB W b := by
  rw [md_E, md_E, md_E, md_x_mul HU HA, md_mul HA]
  grind
/-- what is left of a when the divisor that it shares with its derivation by t is taken out has no squares -/
theorem md_free [Lean.Grind.CommRing U] [Lean.Grind.CommRing A] {cu : U → Nat → FP} {ca : A → Nat → U} (HU : mp_P cu) (HA : mp_P ca) {p d : A} (hp0 : p ≠ 0) (hd : mp_Pr d) (hd2 : mp_D (d * d) p) : ∀ (n : Nat) (g Y : A), mp_mu cu ca g ≤ n → g ≠ 0 → md_d ca g * p = g * Y → ¬ mp_D d Y → False := by
  have hAd := mp_dom HA (mp_dom HU (mp_Fd_nz mp_FP))
  intro n
  induction n with
  | zero => intro g Y h1 h2; have := mp_mu_2 HU HA h2; omega
  | succ n ih =>
    intro g Y h1 h2 h3 h4
    obtain ⟨p1, hp1⟩ := hd2
    have h5 : mp_D d (g * Y) := by rw [← h3, hp1]; exact ⟨md_d ca g * d * p1, by clear ih; grind⟩
    rcases hd.2.2 _ _ h5 with h6 | h6
    · obtain ⟨g2, hg2⟩ := h6
      have hg20 : g2 ≠ 0 := fun e => h2 (by rw [hg2, e]; clear ih; grind)
      have hmu := mp_mu_mul mp_FP HU HA hd.1 hg20
      rw [← hg2] at hmu
      have hmd : mp_mu cu ca d ≠ 2 := fun e => by
        obtain ⟨r, hr, hr2⟩ := mp_mu_U mp_FP HU HA hd.1 e
        exact hd.2.1 (by rw [hr2]; exact mp_CC_U mp_FP HU HA hr)
      have hm2 := mp_mu_2 HU HA hd.1
      have hm3 := mp_mu_2 HU HA hg20
      refine ih g2 (Y - md_d ca d * d * p1) (by omega) hg20 (mp_cancel hAd hd.1 ?_) (fun e => h4 ?_)
      · rw [hg2, md_mul HA] at h3
        clear ih
        grind
      · have := mp_D_add e (⟨md_d ca d * p1, by clear ih; grind⟩ : mp_D d (md_d ca d * d * p1))
        rw [show Y - md_d ca d * d * p1 + md_d ca d * d * p1 = Y by clear ih; grind] at this
        exact this
    · exact h4 h6
theorem md_prim [Lean.Grind.CommRing U] [Lean.Grind.CommRing A] {cu : U → Nat → FP} {ca : A → Nat → U} (HU : mp_P cu) (HA : mp_P ca) {p : A} {x : U} (hp0 : p ≠ 0) (hd : mp_Pr (mp_C ca x)) (hd2 : mp_D (mp_C ca x) p) : ∀ (n : Nat) (g Y : A), mp_mu cu ca g ≤ n → g ≠ 0 → md_d ca g * p = g * Y → ¬ mp_D (mp_C ca x) Y → False := by
  have hAd := mp_dom HA (mp_dom HU (mp_Fd_nz mp_FP))
  intro n
  induction n with
  | zero => intro g Y h1 h2; have := mp_mu_2 HU HA h2; omega
  | succ n ih =>
    intro g Y h1 h2 h3 h4
    have h5 : mp_D (mp_C ca x) (g * Y) := by rw [← h3]; exact mp_D_mul' hd2 _
    rcases hd.2.2 _ _ h5 with h6 | h6
    · obtain ⟨g2, hg2⟩ := h6
      have hg20 : g2 ≠ 0 := fun e => h2 (by rw [hg2, e]; clear ih; grind)
      have hmu := mp_mu_mul mp_FP HU HA hd.1 hg20
      rw [← hg2] at hmu
      have hmd : mp_mu cu ca (mp_C ca x) ≠ 2 := fun e => by
        obtain ⟨r, hr, hr2⟩ := mp_mu_U mp_FP HU HA hd.1 e
        exact hd.2.1 (by rw [hr2]; exact mp_CC_U mp_FP HU HA hr)
      have hm2 := mp_mu_2 HU HA hd.1
      have hm3 := mp_mu_2 HU HA hg20
      refine ih g2 Y (by omega) hg20 (mp_cancel hAd hd.1 ?_) h4
      rw [hg2, md_mul HA, md_C HA] at h3
      clear ih
      grind
    · exact h4 h6
/-- both, of a = g p, its derivation by t = g w, where only units divide p and w -/
theorem md_bare [Lean.Grind.CommRing U] [Lean.Grind.CommRing A] {cu : U → Nat → FP} {ca : A → Nat → U} (HU : mp_P cu) (HA : mp_P ca) {a g p w : A} (ha : a ≠ 0) (e1 : a = g * p) (e2 : md_d ca a = g * w) (hc : mp_Cp p w) : (∀ d, mp_Pr d → ¬ mp_D (d * d) p) ∧ ∀ x : U, mp_D (mp_C ca x) p → mp_U x := by
  have hF := mp_FP
  have hU := mp_dom HU (mp_Fd_nz hF)
  have hg0 : g ≠ 0 := fun e => ha (by rw [e1, e]; grind)
  have hp0 : p ≠ 0 := fun e => ha (by rw [e1, e]; grind)
  have key : md_d ca g * p = g * (w - md_d ca p) := by
    rw [e1, md_mul HA] at e2
    grind
  have prim : ∀ x : U, mp_Irr x → ¬ mp_D (mp_C ca x) p := by
    intro x hx h
    have hx2 := mp_prF HU hF hx
    have hpr : mp_Pr (mp_C ca x) := ⟨mp_C_ne HA hx.1, fun hu => by
      obtain ⟨y, hy⟩ := hu
      have h1 := congrArg (fun z => ca z 0) hy
      simp only [mp_C_mul HA, mp_one HA, if_true] at h1
      exact hx.2.1 ⟨_, h1⟩, fun f g' h => mp_gauss HA hx2.2.2 h⟩
    refine md_prim HU HA hp0 hpr h _ g (w - md_d ca p) (Nat.le_refl _) hg0 key (fun e => hpr.2.1 (hc _ h ?_))
    obtain ⟨p1, hp1⟩ := h
    have h2 : mp_D (mp_C ca x) (md_d ca p) := ⟨md_d ca p1, by rw [hp1, md_mul HA, md_C HA]; grind⟩
    have := mp_D_add e h2
    rw [show w - md_d ca p + md_d ca p = w by grind] at this
    exact this
  refine ⟨fun d hd h => ?_, fun x h => ?_⟩
  · refine md_free HU HA hp0 hd h _ g (w - md_d ca p) (Nat.le_refl _) hg0 key (fun e => hd.2.1 (hc d (mp_D_tr ⟨d, rfl⟩ h) ?_))
    obtain ⟨p1, hp1⟩ := h
    have h2 : mp_D d (md_d ca p) := ⟨md_d ca d * p1 + md_d ca d * p1 + d * md_d ca p1, by rw [hp1, md_mul HA, md_mul HA]; grind⟩
    have := mp_D_add e h2
    rw [show w - md_d ca p + md_d ca p = w by grind] at this
    exact this
  · have hx0 : x ≠ 0 := fun e => by
      obtain ⟨y, hy⟩ := h
      exact hp0 (by rw [hy, e, mp_C_0 HA]; grind)
    have := mp_sz_pos HU hx0
    rcases Nat.lt_or_ge (mp_sz cu x) 2 with q | q
    · exact mp_U_F HU hF (by omega)
    · obtain ⟨y, hy1, z, hz⟩ := mp_irr_ex HU hF _ x (Nat.le_refl _) q
      exact absurd (mp_D_tr ⟨mp_C ca z, by rw [hz, mp_C_mulC HA]⟩ h) (prim y hy1)
end
end
section
/-! the special part: t alone, of an exponential; nothing, of a logarithm -/
section
variable {U A : Type}
theorem me_n_ne [Lean.Grind.CommRing U] {cu : U → Nat → FP} (HU : mp_P cu) {n : Nat} (h0 : 0 < n) (h : n < 32003) : mp_U (mr_nR (R := U) n) := by
  rw [mr_nR_C HU, mr_nR_FP]
  exact mp_U_C HU (mp_FP.1 _ (mf_n_ne h0 h))
theorem me_pr_U [Lean.Grind.CommRing U] {x y : U} (hx : mp_Pr x) (h : mp_U y) : ¬ mp_D x y := fun q => hx.2.1 (mp_U_of_D q h)
/-- a prime doesn't divide its derivation -/
theorem me_pr_d [Lean.Grind.CommRing U] {cu : U → Nat → FP} (HU : mp_P cu) {x : U} (hx : mp_Pr x) (hs : mp_sz cu x ≤ 32003) : ¬ mp_D x (md_d cu x) := by
  intro h
  have hR := mp_Fd_nz mp_FP
  have h0 := mp_sz_pos HU hx.1
  have h2 : 2 ≤ mp_sz cu x := by
    rcases Nat.lt_or_ge (mp_sz cu x) 2 with q | q
    · exact absurd (mp_U_F HU mp_FP (by omega)) hx.2.1
    · exact q
  obtain ⟨m, hm⟩ : ∃ m, mp_sz cu x = m + 2 := ⟨mp_sz cu x - 2, by omega⟩
  have h3 : cu (md_d cu x) m ≠ 0 := by
    rw [md_cf HU, mr_nR_FP]
    exact mp_nz_mul hR (mf_n_ne (by omega) (by omega)) (mp_sz_top HU hm)
  have h4 : md_d cu x ≠ 0 := fun e => h3 (by rw [e, mp_zero HU])
  have h5 := mp_D_sz HU hR h h4
  have h6 := md_sz HU (a := x) (n := m + 1) (by omega)
  omega
/-- what a prime's power does in a derivation -/
theorem me_val [Lean.Grind.CommRing U] {cu : U → Nat → FP} (HU : mp_P cu) {x : U} (hx : mp_Pr x) : ∀ (n : Nat) (y : U), mp_sz cu y ≤ n → y ≠ 0 → ∃ (s : Nat) (z : U), ¬ mp_D x z ∧ s < mp_sz cu y ∧ (mp_D x y → 0 < s) ∧ md_d cu y * x * z = y * (mr_nR s * md_d cu x * z + x * md_d cu z) := by
  have hR := mp_Fd_nz mp_FP
  intro n
  induction n with
  | zero => intro y h1 h2; have := mp_sz_pos HU h2; omega
  | succ n ih =>
    intro y h1 h2
    by_cases hd : mp_D x y
    · obtain ⟨w, hw⟩ := hd
      have hw0 : w ≠ 0 := fun e => h2 (by rw [hw, e]; clear ih; grind)
      have hs := mp_sz_mul HU hR hx.1 hw0
      rw [← hw] at hs
      have hx2 : 2 ≤ mp_sz cu x := by
        rcases Nat.lt_or_ge (mp_sz cu x) 2 with q | q
        · have := mp_sz_pos HU hx.1
          exact absurd (mp_U_F HU mp_FP (by omega)) hx.2.1
        · exact q
      obtain ⟨s, z, h3, h4, -, h5⟩ := ih w (by omega) hw0
      refine ⟨s + 1, z, h3, by omega, fun _ => by omega, ?_⟩
      rw [hw, md_mul HU, show mr_nR (R := U) (s + 1) = mr_nR s + 1 from rfl]
      clear ih
      grind
    · refine ⟨0, y, hd, mp_sz_pos HU h2, fun q => absurd q hd, ?_⟩
      rw [show mr_nR (R := U) 0 = 0 from rfl]
      clear ih
      grind
theorem me_nD [Lean.Grind.CommRing U] {x y z : U} (hx : mp_Pr x) (hy : ¬ mp_D x y) (hz : ¬ mp_D x z) : ¬ mp_D x (y * z) := fun h => (hx.2.2 _ _ h).elim hy hz
/-- exponential: no prime divides y -/
theorem me_exp0 [Lean.Grind.CommRing U] {cu : U → Nat → FP} (HU : mp_P cu) {x u v y z k : U} (hx : mp_Pr x) (hs : mp_sz cu x ≤ 32003) (hv0 : v ≠ 0) (hy0 : y ≠ 0) (hvs : mp_sz cu v ≤ 32003) (hys : mp_sz cu y ≤ 32003) (huv : mp_Cp u v) (hyz : mp_Cp y z) (hk : mp_U k) (e : v * v * (md_d cu y * z - md_d cu z * y) = k * (md_d cu u * v - u * md_d cu v) * (y * z)) (h : mp_D x y) : False := by
  have hU := mp_dom HU (mp_Fd_nz mp_FP)
  have hxd := me_pr_d HU hx hs
  obtain ⟨s, y2, h1, h2, h3, h4⟩ := me_val HU hx _ y (Nat.le_refl _) hy0
  have hs0 := h3 h
  have hsU := me_n_ne HU hs0 (by omega)
  have hxz : ¬ mp_D x z := fun q => hx.2.1 (hyz x h q)
  have e2 : v * v * ((mr_nR s * md_d cu x * y2 + x * md_d cu y2) * z - x * y2 * md_d cu z) = k * (md_d cu u * v - u * md_d cu v) * z * (x * y2) := by
    apply mp_cancel hU hy0
    have : y * (v * v * ((mr_nR s * md_d cu x * y2 + x * md_d cu y2) * z - x * y2 * md_d cu z)) = v * v * (md_d cu y * x * y2 * z - y * x * y2 * md_d cu z) := by rw [h4]; grind
    rw [this, show md_d cu y * x * y2 * z - y * x * y2 * md_d cu z = (md_d cu y * z - md_d cu z * y) * (x * y2) by grind]
    grind
  have hN : ¬ mp_D x (mr_nR s * md_d cu x * y2 * z) := me_nD hx (me_nD hx (me_nD hx (me_pr_U hx hsU) hxd) h1) hxz
  have hxv : mp_D x v := by
    refine Classical.byContradiction (fun q => me_nD hx (me_nD hx q q) hN ?_)
    have h5 : mp_D x (v * v * ((mr_nR s * md_d cu x * y2 + x * md_d cu y2) * z - x * y2 * md_d cu z)) := by
      rw [e2]
      exact ⟨k * (md_d cu u * v - u * md_d cu v) * z * y2, by grind⟩
    have h6 := mp_D_sub h5 (⟨v * v * (md_d cu y2 * z - y2 * md_d cu z), rfl⟩ : mp_D x (x * (v * v * (md_d cu y2 * z - y2 * md_d cu z))))
    rw [show v * v * ((mr_nR s * md_d cu x * y2 + x * md_d cu y2) * z - x * y2 * md_d cu z) - x * (v * v * (md_d cu y2 * z - y2 * md_d cu z)) = v * v * (mr_nR s * md_d cu x * y2 * z) by grind] at h6
    exact h6
  have hxu : ¬ mp_D x u := fun q => hx.2.1 (huv x q hxv)
  obtain ⟨f, v2, g1, g2, g3, g4⟩ := me_val HU hx _ v (Nat.le_refl _) hv0
  have hfU := me_n_ne HU (g3 hxv) (by omega)
  have e3 : v2 * v * ((mr_nR s * md_d cu x * y2 + x * md_d cu y2) * z - x * y2 * md_d cu z) = k * (md_d cu u * x * v2 - u * (mr_nR f * md_d cu x * v2 + x * md_d cu v2)) * z * y2 := by
    apply mp_cancel hU (mp_nz_mul hU hv0 hx.1)
    have : v * x * (k * (md_d cu u * x * v2 - u * (mr_nR f * md_d cu x * v2 + x * md_d cu v2)) * z * y2) = x * k * (md_d cu u * v * x * v2 - u * (md_d cu v * x * v2)) * z * y2 := by rw [g4]; grind
    rw [this]
    grind
  have h7 : mp_D x (k * (md_d cu u * x * v2 - u * (mr_nR f * md_d cu x * v2 + x * md_d cu v2)) * z * y2) := by
    rw [← e3]
    obtain ⟨w, hw⟩ := hxv
    exact ⟨v2 * w * ((mr_nR s * md_d cu x * y2 + x * md_d cu y2) * z - x * y2 * md_d cu z), by grind⟩
  have h8 := mp_D_sub (⟨k * (md_d cu u * v2 - u * md_d cu v2) * z * y2, rfl⟩ : mp_D x (x * (k * (md_d cu u * v2 - u * md_d cu v2) * z * y2))) h7
  rw [show x * (k * (md_d cu u * v2 - u * md_d cu v2) * z * y2) - k * (md_d cu u * x * v2 - u * (mr_nR f * md_d cu x * v2 + x * md_d cu v2)) * z * y2 = k * u * mr_nR f * md_d cu x * v2 * z * y2 by grind] at h8
  exact me_nD hx (me_nD hx (me_nD hx (me_nD hx (me_nD hx (me_nD hx (me_pr_U hx hk) hxu) (me_pr_U hx hfU)) hxd) g1) hxz) h1 h8
/-- a polynomial that no prime divides is a number -/
theorem me_const [Lean.Grind.CommRing U] {cu : U → Nat → FP} (HU : mp_P cu) {y : U} (hy0 : y ≠ 0) (hys : mp_sz cu y ≤ 32003) (h : ∀ x, mp_Pr x → mp_sz cu x ≤ 32003 → mp_D x y → False) : mp_sz cu y = 1 := by
  have := mp_sz_pos HU hy0
  rcases Nat.lt_or_ge (mp_sz cu y) 2 with q | q
  · omega
  · obtain ⟨x, hx1, hx2⟩ := mp_irr_ex HU mp_FP _ y (Nat.le_refl _) q
    have := mp_D_sz HU (mp_Fd_nz mp_FP) hx2 hy0
    exact absurd hx2 (fun q => h x (mp_prF HU mp_FP hx1) (by omega) q)
theorem me_d_const [Lean.Grind.CommRing U] {cu : U → Nat → FP} (HU : mp_P cu) {y : U} (h : mp_sz cu y ≤ 1) : md_d cu y = 0 := by
  rw [mp_sz_1 HU h, md_C HU]
/-- two numbers in lowest terms -/
theorem me_low [Lean.Grind.CommRing U] {cu : U → Nat → FP} (HU : mp_P cu) (y : U) {z : U} (hz : z ≠ 0) : ∃ g y1 z1, g ≠ 0 ∧ y = g * y1 ∧ z = g * z1 ∧ mp_Cp y1 z1 := by
  have hU := mp_dom HU (mp_Fd_nz mp_FP)
  obtain ⟨g, a, b, h1, ⟨y1, h2⟩, ⟨z1, h3⟩⟩ := mp_bez HU mp_FP _ y z (Nat.le_refl _)
  have hg0 : g ≠ 0 := fun e => hz (by rw [h3, e]; grind)
  refine ⟨g, y1, z1, hg0, h2, h3, ?_⟩
  rintro d ⟨p, hp⟩ ⟨q, hq⟩
  refine ⟨a * p + b * q, mp_cancel hU hg0 ?_⟩
  grind
theorem me_exp [Lean.Grind.CommRing U] {cu : U → Nat → FP} (HU : mp_P cu) {u v y z k : U} (hv0 : v ≠ 0) (hy0 : y ≠ 0) (hz0 : z ≠ 0) (hvs : mp_sz cu v ≤ 32003) (hys : mp_sz cu y ≤ 32003) (hzs : mp_sz cu z ≤ 32003) (huv : mp_Cp u v) (hk : mp_U k) (hne : md_d cu u * v - u * md_d cu v ≠ 0) (e : v * v * (md_d cu y * z - md_d cu z * y) = k * (md_d cu u * v - u * md_d cu v) * (y * z)) : False := by
  have hR := mp_Fd_nz mp_FP
  have hU := mp_dom HU hR
  obtain ⟨g, y1, z1, hg0, rfl, rfl, hc⟩ := me_low HU y hz0
  have hy10 : y1 ≠ 0 := fun q => hy0 (by rw [q]; grind)
  have hz10 : z1 ≠ 0 := fun q => hz0 (by rw [q]; grind)
  have hk0 : k ≠ 0 := fun q => by obtain ⟨c, hc⟩ := hk; exact hU.2 (by rw [← hc, q]; grind)
  have hys1 := mp_D_sz HU hR (⟨g, by grind⟩ : mp_D y1 (g * y1)) hy0
  have hzs1 := mp_D_sz HU hR (⟨g, by grind⟩ : mp_D z1 (g * z1)) hz0
  have e2 : v * v * (md_d cu y1 * z1 - md_d cu z1 * y1) = k * (md_d cu u * v - u * md_d cu v) * (y1 * z1) := by
    apply mp_cancel hU (mp_nz_mul hU hg0 hg0)
    rw [md_mul HU, md_mul HU] at e
    grind
  have c1 := me_const HU hy10 (by omega) (fun x hx hs hd => me_exp0 HU hx hs hv0 hy10 hvs (by omega) huv hc hk e2 hd)
  have hk2 : mp_U (-k) := by obtain ⟨c, hc⟩ := hk; exact ⟨-c, by grind⟩
  have c2 := me_const HU hz10 (by omega) (fun x hx hs hd => me_exp0 HU hx hs hv0 hz10 hvs (by omega) huv (mp_cp_sym hc) hk2 (show v * v * (md_d cu z1 * y1 - md_d cu y1 * z1) = -k * (md_d cu u * v - u * md_d cu v) * (z1 * y1) by grind) hd)
  rw [me_d_const HU (Nat.le_of_eq c1), me_d_const HU (Nat.le_of_eq c2)] at e2
  have h9 := mp_nz_mul hU (mp_nz_mul hU hk0 hne) (mp_nz_mul hU hy10 hz10)
  exact h9 (by rw [← e2]; grind)
/-- logarithm: no prime divides v -/
theorem me_log0 [Lean.Grind.CommRing U] {cu : U → Nat → FP} (HU : mp_P cu) {x u v y z k : U} (hx : mp_Pr x) (hs : mp_sz cu x ≤ 32003) (hv0 : v ≠ 0) (hz0 : z ≠ 0) (hvs : mp_sz cu v ≤ 32003) (hzs : mp_sz cu z ≤ 32003) (huv : mp_Cp u v) (hyz : mp_Cp y z) (hk : mp_U k) (e : u * v * (md_d cu y * z - md_d cu z * y) = k * (md_d cu u * v - u * md_d cu v) * (z * z)) (hxv : mp_D x v) : False := by
  have hU := mp_dom HU (mp_Fd_nz mp_FP)
  have hxd := me_pr_d HU hx hs
  have hxu : ¬ mp_D x u := fun q => hx.2.1 (huv x q hxv)
  obtain ⟨f, v2, g1, g2, g3, g4⟩ := me_val HU hx _ v (Nat.le_refl _) hv0
  have hfU := me_n_ne HU (g3 hxv) (by omega)
  have e2 : x * v2 * u * (md_d cu y * z - md_d cu z * y) = k * (md_d cu u * x * v2 - u * (mr_nR f * md_d cu x * v2 + x * md_d cu v2)) * (z * z) := by
    apply mp_cancel hU hv0
    have : v * (k * (md_d cu u * x * v2 - u * (mr_nR f * md_d cu x * v2 + x * md_d cu v2)) * (z * z)) = k * (md_d cu u * v * x * v2 - u * (md_d cu v * x * v2)) * (z * z) := by rw [g4]; grind
    rw [this]
    grind
  have hM : ¬ mp_D x (k * u * mr_nR f * md_d cu x * v2) := me_nD hx (me_nD hx (me_nD hx (me_nD hx (me_pr_U hx hk) hxu) (me_pr_U hx hfU)) hxd) g1
  have hxz : mp_D x z := by
    refine Classical.byContradiction (fun q => me_nD hx hM (me_nD hx q q) ?_)
    have h1 : mp_D x (x * (k * (md_d cu u * v2 - u * md_d cu v2) * (z * z) - v2 * u * (md_d cu y * z - md_d cu z * y))) := ⟨_, rfl⟩
    rw [show x * (k * (md_d cu u * v2 - u * md_d cu v2) * (z * z) - v2 * u * (md_d cu y * z - md_d cu z * y)) = k * u * mr_nR f * md_d cu x * v2 * (z * z) by grind] at h1
    exact h1
  have hxy : ¬ mp_D x y := fun q => hx.2.1 (hyz x q hxz)
  obtain ⟨s, z2, h1, h2, h3, h4⟩ := me_val HU hx _ z (Nat.le_refl _) hz0
  have hsU := me_n_ne HU (h3 hxz) (by omega)
  have e3 : v2 * u * (md_d cu y * x * z2 - (mr_nR s * md_d cu x * z2 + x * md_d cu z2) * y) = k * (md_d cu u * x * v2 - u * (mr_nR f * md_d cu x * v2 + x * md_d cu v2)) * (z * z2) := by
    apply mp_cancel hU (mp_nz_mul hU hz0 hx.1)
    have : z * x * (v2 * u * (md_d cu y * x * z2 - (mr_nR s * md_d cu x * z2 + x * md_d cu z2) * y)) = x * v2 * u * (md_d cu y * z * x * z2 - (md_d cu z * x * z2) * y) := by rw [h4]; grind
    rw [this]
    grind
  have h5 : mp_D x (v2 * u * (md_d cu y * x * z2 - (mr_nR s * md_d cu x * z2 + x * md_d cu z2) * y)) := by
    rw [e3]
    obtain ⟨w, hw⟩ := hxz
    exact ⟨k * (md_d cu u * x * v2 - u * (mr_nR f * md_d cu x * v2 + x * md_d cu v2)) * (w * z2), by grind⟩
  have h6 := mp_D_sub (⟨v2 * u * (md_d cu y * z2 - md_d cu z2 * y), rfl⟩ : mp_D x (x * (v2 * u * (md_d cu y * z2 - md_d cu z2 * y)))) h5
  rw [show x * (v2 * u * (md_d cu y * z2 - md_d cu z2 * y)) - v2 * u * (md_d cu y * x * z2 - (mr_nR s * md_d cu x * z2 + x * md_d cu z2) * y) = v2 * u * mr_nR s * md_d cu x * z2 * y by grind] at h6
  exact me_nD hx (me_nD hx (me_nD hx (me_nD hx (me_nD hx g1 hxu) (me_pr_U hx hsU)) hxd) h1) hxy h6
theorem me_log [Lean.Grind.CommRing U] {cu : U → Nat → FP} (HU : mp_P cu) {u v y z k : U} (hu0 : u ≠ 0) (hv0 : v ≠ 0) (hz0 : z ≠ 0) (hus : mp_sz cu u ≤ 32003) (hvs : mp_sz cu v ≤ 32003) (hzs : mp_sz cu z ≤ 32003) (huv : mp_Cp u v) (hk : mp_U k) (hne : md_d cu u * v - u * md_d cu v ≠ 0) (e : u * v * (md_d cu y * z - md_d cu z * y) = k * (md_d cu u * v - u * md_d cu v) * (z * z)) : False := by
  have hR := mp_Fd_nz mp_FP
  have hU := mp_dom HU hR
  obtain ⟨g, y1, z1, hg0, rfl, rfl, hc⟩ := me_low HU y hz0
  have hz10 : z1 ≠ 0 := fun q => hz0 (by rw [q]; grind)
  have hzs1 := mp_D_sz HU hR (⟨g, by grind⟩ : mp_D z1 (g * z1)) hz0
  have e2 : u * v * (md_d cu y1 * z1 - md_d cu z1 * y1) = k * (md_d cu u * v - u * md_d cu v) * (z1 * z1) := by
    apply mp_cancel hU (mp_nz_mul hU hg0 hg0)
    rw [md_mul HU, md_mul HU] at e
    grind
  have c1 := me_const HU hv0 hvs (fun x hx hs hd => me_log0 HU hx hs hv0 hz10 hvs (by omega) huv hc hk e2 hd)
  have hk2 : mp_U (-k) := by obtain ⟨c, hc⟩ := hk; exact ⟨-c, by grind⟩
  have c2 := me_const HU hu0 hus (fun x hx hs hd => me_log0 HU hx hs hu0 hz10 hus (by omega) (mp_cp_sym huv) hc hk2 (show v * u * (md_d cu y1 * z1 - md_d cu z1 * y1) = -k * (md_d cu v * u - v * md_d cu u) * (z1 * z1) by grind) hd)
  rw [me_d_const HU (Nat.le_of_eq c1), me_d_const HU (Nat.le_of_eq c2)] at hne
  exact hne (by grind)
end
end
section
/-! the special part, whole -/
section
variable {U A : Type}
noncomputable def ms_t [Lean.Grind.CommRing U] [Lean.Grind.CommRing A] (ca : A → Nat → U) : A := mp_m ca 1 1
theorem ms_t_mul [Lean.Grind.CommRing U] [Lean.Grind.CommRing A] {ca : A → Nat → U} (HA : mp_P ca) (a : A) (n : Nat) : ca (ms_t ca * a) n = if 1 ≤ n then ca a (n - 1) else 0 := by
  rw [ms_t, mp_m_mul HA]
  split
  · grind
  · rfl
theorem ms_t_D [Lean.Grind.CommRing U] [Lean.Grind.CommRing A] {ca : A → Nat → U} (HA : mp_P ca) {a : A} : mp_D (ms_t ca) a ↔ ca a 0 = 0 := by
  constructor
  · rintro ⟨b, rfl⟩
    rw [ms_t_mul HA]
    rfl
  · intro h
    obtain ⟨b, -, hb⟩ := mp_unshift HA a
    rw [h, mp_C_0 HA] at hb
    exact ⟨b, by rw [ms_t]; grind⟩
theorem ms_t_sz [Lean.Grind.CommRing U] [Lean.Grind.CommRing A] {ca : A → Nat → U} (HA : mp_P ca) (hU : mp_NZ U) : mp_sz ca (ms_t ca) = 2 := mp_sz_eq HA (n := 1) (fun j hj => by rw [ms_t, mp_m_cf HA, if_neg (by omega)]) (by rw [ms_t, mp_m_cf HA, if_pos rfl]; exact hU.2)
theorem ms_t_Pr [Lean.Grind.CommRing U] [Lean.Grind.CommRing A] {ca : A → Nat → U} (HA : mp_P ca) (hU : mp_NZ U) : mp_Pr (ms_t ca) := by
  have hs := ms_t_sz HA hU
  refine ⟨fun e => by rw [(mp_sz_0 HA).mpr e] at hs; omega, fun e => by have := mp_U_sz HA hU e; omega, fun f g h => ?_⟩
  rw [ms_t_D HA, mp_mul HA, mp_S_s, mp_S_0] at h
  rcases hU.1 (ca f 0) (ca g 0) (by simp at h; grind) with z | z
  · exact Or.inl ((ms_t_D HA).mpr z)
  · exact Or.inr ((ms_t_D HA).mpr z)
theorem ms_part [Lean.Grind.CommRing U] [Lean.Grind.CommRing A] {cu : U → Nat → FP} {ca : A → Nat → U} (HU : mp_P cu) (HA : mp_P ca) {p h W : A} {sB : U} (hp0 : p ≠ 0) (hfree : ∀ d, mp_Pr d → ¬ mp_D (d * d) p) (h1 : mp_D h p) (h2 : mp_D h (md_E cu ca sB W p)) : mp_D h (md_E cu ca sB W h) := by
  have hAd := mp_dom HA (mp_dom HU (mp_Fd_nz mp_FP))
  obtain ⟨k, hk⟩ := h1
  have hh0 : h ≠ 0 := fun e => hp0 (by rw [hk, e]; grind)
  have hk0 : k ≠ 0 := fun e => hp0 (by rw [hk, e]; grind)
  have hcp : mp_Cp k h := mp_ncp mp_FP HU HA hh0 (fun d hd g1 g2 => hfree d hd (by
    obtain ⟨x, hx⟩ := g1
    obtain ⟨y, hy⟩ := g2
    exact ⟨x * y, by rw [hk, hx, hy]; grind⟩))
  refine mp_euclid mp_FP HU HA hh0 hcp ?_
  have h3 := mp_D_sub h2 (⟨md_E cu ca sB W k, rfl⟩ : mp_D h (h * md_E cu ca sB W k))
  rw [hk, md_E_mul HU HA, show md_E cu ca sB W h * k + h * md_E cu ca sB W k - h * md_E cu ca sB W k = k * md_E cu ca sB W h by grind] at h3
  exact h3
theorem ms_E_exp [Lean.Grind.CommRing U] [Lean.Grind.CommRing A] {cu : U → Nat → FP} {ca : A → Nat → U} (HU : mp_P cu) (HA : mp_P ca) (sA sB : U) (h : A) (n : Nat) : ca (md_E cu ca sB (mp_C ca sA * ms_t ca) h) n = sB * md_d cu (ca h n) + sA * mr_nR n * ca h n := by
  rw [md_E, mp_add HA, mp_C_mul HA, md_x_cf HU HA, show mp_C ca sA * ms_t ca * md_d ca h = mp_C ca sA * (ms_t ca * md_d ca h) by grind, mp_C_mul HA, ms_t_mul HA]
  cases n with
  | zero =>
    rw [if_neg (by omega), show mr_nR (R := U) 0 = 0 from rfl]
    grind
  | succ n =>
    rw [if_pos (by omega), Nat.add_sub_cancel, md_cf HA]
    grind
theorem ms_E_log [Lean.Grind.CommRing U] [Lean.Grind.CommRing A] {cu : U → Nat → FP} {ca : A → Nat → U} (HU : mp_P cu) (HA : mp_P ca) (sA sB : U) (h : A) (n : Nat) : ca (md_E cu ca sB (mp_C ca sA) h) n = sB * md_d cu (ca h n) + sA * mr_nR (n + 1) * ca h (n + 1) := by
  rw [md_E, mp_add HA, mp_C_mul HA, md_x_cf HU HA, mp_C_mul HA, md_cf HA]
  grind
/-- a divisor of its derivation: the other factor is without t -/
theorem ms_factor [Lean.Grind.CommRing U] [Lean.Grind.CommRing A] {cu : U → Nat → FP} {ca : A → Nat → U} (HU : mp_P cu) (HA : mp_P ca) {h e : A} (hh0 : h ≠ 0) (hd : mp_D h e) (hs : mp_sz ca e ≤ mp_sz ca h) : ∃ q : U, ∀ n, ca e n = q * ca h n := by
  have hU := mp_dom HU (mp_Fd_nz mp_FP)
  obtain ⟨q, rfl⟩ := hd
  refine ⟨ca q 0, fun n => ?_⟩
  have hq : mp_sz ca q ≤ 1 := by
    by_cases hq0 : q = 0
    · rw [(mp_sz_0 HA).mpr hq0]; omega
    · have := mp_sz_mul HA hU hh0 hq0
      omega
  rw [show h * q = q * h by grind, mp_sz_1 HA hq, mp_C_mul HA, ← mp_sz_1 HA hq]
theorem ms_exp [Lean.Grind.CommRing U] [Lean.Grind.CommRing A] {cu : U → Nat → FP} {ca : A → Nat → U} (HU : mp_P cu) (HA : mp_P ca) {p h : A} {sA sB u v : U} (hp0 : p ≠ 0) (hfree : ∀ d, mp_Pr d → ¬ mp_D (d * d) p) (hprim : ∀ x : U, mp_D (mp_C ca x) p → mp_U x) (hps : mp_sz ca p ≤ 32003) (hpx : mp_xz cu ca p ≤ 32003) (hv0 : v ≠ 0) (hvs : mp_sz cu v ≤ 32003) (huv : mp_Cp u v) (hne : md_d cu u * v - u * md_d cu v ≠ 0) (hsB : sB ≠ 0) (hs : sB * (md_d cu u * v - u * md_d cu v) = sA * (v * v))
    (hg : mp_G p (md_E cu ca sB (mp_C ca sA * ms_t ca) p) h) : (ca p 0 = 0 → ∃ r : FP, r ≠ 0 ∧ h = mp_C ca (mp_C cu r) * ms_t ca) ∧ (ca p 0 ≠ 0 → mp_U h) := by
  have hR := mp_Fd_nz mp_FP
  have hU := mp_dom HU hR
  have hAd := mp_dom HA hU
  have hh0 : h ≠ 0 := fun e => by obtain ⟨y, hy⟩ := hg.1; exact hp0 (by rw [hy, e]; grind)
  have hhs := mp_D_sz HA hU hg.1 hp0
  have hhx : mp_xz cu ca h ≤ mp_xz cu ca p := mp_D_sz (mp_sw_P HU HA) hU hg.1 hp0
  obtain ⟨q, hq⟩ := ms_factor HU HA hh0 (ms_part HU HA hp0 hfree hg.1 hg.2.1) (mp_sz_le HA (fun n hn => by rw [ms_E_exp HU HA, mp_sz_out HA hn, md_0 HU]; grind))
  obtain ⟨n, hn⟩ : ∃ n, mp_sz ca h = n + 1 := ⟨mp_sz ca h - 1, by have := mp_sz_pos HA hh0; omega⟩
  have hz0 := mp_sz_top HA hn
  have low : ∀ k, k < n → ca h k = 0 := by
    intro k hk
    refine Classical.byContradiction (fun hy0 => ?_)
    have e1 := hq k
    have e2 := hq n
    rw [ms_E_exp HU HA] at e1 e2
    have hnk : mr_nR (R := U) n = mr_nR k + mr_nR (n - k) := by rw [← mr_nR_add, show k + (n - k) = n by omega]
    refine me_exp HU hv0 hy0 hz0 hvs (Nat.le_trans (mp_xz_row HU HA h k) (by omega)) (Nat.le_trans (mp_xz_row HU HA h n) (by omega)) huv (me_n_ne HU (n := n - k) (by omega) (by omega)) hne ?_
    apply mp_cancel hU hsB
    grind
  have hdh : ∀ x : U, mp_D (mp_C ca x) h → mp_U x := fun x hx => hprim x (mp_D_tr hx hg.1)
  have hn1 : n ≤ 1 := by
    refine Classical.byContradiction (fun hq => ?_)
    obtain ⟨b, hb1, hb2⟩ := mp_unshift HA h
    rw [low 0 (by omega), mp_C_0 HA] at hb2
    obtain ⟨b', hb3, hb4⟩ := mp_unshift HA b
    rw [hb1, low 1 (by omega), mp_C_0 HA] at hb4
    refine hfree _ (ms_t_Pr HA hU) (mp_D_tr ⟨b', ?_⟩ hg.1)
    rw [ms_t]
    grind
  by_cases hn0 : n = 0
  · have hu : mp_U h := by
      rw [mp_sz_1 HA (a := h) (by omega)]
      exact mp_U_C HA (hdh _ (by rw [← mp_sz_1 HA (a := h) (by omega)]; exact mp_D_rf h))
    refine ⟨fun h0 => ?_, fun _ => hu⟩
    have ht : mp_D (ms_t ca) h := by
      refine hg.2.2 _ ((ms_t_D HA).mpr h0) ((ms_t_D HA).mpr ?_)
      rw [ms_E_exp HU HA, h0, md_0 HU]
      grind
    exact absurd (mp_U_of_D ht hu) (ms_t_Pr HA hU).2.1
  · have hn1' : n = 1 := by omega
    subst hn1'
    have hh : h = mp_C ca (ca h 1) * ms_t ca := mp_ext HA (fun k => by
      rw [mp_C_mul HA, ms_t, mp_m_cf HA]
      by_cases h1 : k = 1
      · rw [if_pos h1, h1]; grind
      · rw [if_neg h1]
        by_cases h0 : k = 0
        · rw [h0, low 0 (by omega)]; grind
        · rw [mp_sz_out HA (by omega)]; grind)
    have ht : mp_D (ms_t ca) p := mp_D_tr ⟨mp_C ca (ca h 1), by rw [hh, mp_C_mul HA, ms_t, mp_m_cf HA, if_pos rfl]; grind⟩ hg.1
    refine ⟨fun _ => ?_, fun h0 => absurd ((ms_t_D HA).mp ht) h0⟩
    have hu := mp_U_sz HU hR (hdh (ca h 1) ⟨ms_t ca, hh⟩)
    have h9 := mp_sz_1 HU (Nat.le_of_eq hu)
    refine ⟨cu (ca h 1) 0, mp_sz_top HU hu, ?_⟩
    rw [← h9]
    exact hh
theorem ms_log [Lean.Grind.CommRing U] [Lean.Grind.CommRing A] {cu : U → Nat → FP} {ca : A → Nat → U} (HU : mp_P cu) (HA : mp_P ca) {p h : A} {sA sB u v : U} (hp0 : p ≠ 0) (hfree : ∀ d, mp_Pr d → ¬ mp_D (d * d) p) (hprim : ∀ x : U, mp_D (mp_C ca x) p → mp_U x) (hps : mp_sz ca p ≤ 32003) (hpx : mp_xz cu ca p ≤ 32003) (hu0 : u ≠ 0) (hv0 : v ≠ 0) (hus : mp_sz cu u ≤ 32003) (hvs : mp_sz cu v ≤ 32003) (huv : mp_Cp u v) (hne : md_d cu u * v - u * md_d cu v ≠ 0) (hsB : sB ≠ 0) (hs : sB * (md_d cu u * v - u * md_d cu v) = sA * (u * v))
    (hg : mp_G p (md_E cu ca sB (mp_C ca sA) p) h) : mp_U h := by
  have hR := mp_Fd_nz mp_FP
  have hU := mp_dom HU hR
  have hAd := mp_dom HA hU
  have hh0 : h ≠ 0 := fun e => by obtain ⟨y, hy⟩ := hg.1; exact hp0 (by rw [hy, e]; grind)
  have hhs := mp_D_sz HA hU hg.1 hp0
  have hhx : mp_xz cu ca h ≤ mp_xz cu ca p := mp_D_sz (mp_sw_P HU HA) hU hg.1 hp0
  obtain ⟨q, hq⟩ := ms_factor HU HA hh0 (ms_part HU HA hp0 hfree hg.1 hg.2.1) (mp_sz_le HA (fun n hn => by rw [ms_E_log HU HA, mp_sz_out HA hn, mp_sz_out HA (by omega), md_0 HU]; grind))
  obtain ⟨n, hn⟩ : ∃ n, mp_sz ca h = n + 1 := ⟨mp_sz ca h - 1, by have := mp_sz_pos HA hh0; omega⟩
  have hz0 := mp_sz_top HA hn
  by_cases hn0 : n = 0
  · rw [mp_sz_1 HA (a := h) (by omega)]
    exact mp_U_C HA (hprim _ (by rw [← mp_sz_1 HA (a := h) (by omega)]; exact hg.1))
  · exfalso
    have e1 := hq (n - 1)
    have e2 := hq n
    rw [ms_E_log HU HA] at e1 e2
    rw [mp_sz_out HA (n := n + 1) (by omega)] at e2
    rw [show n - 1 + 1 = n by omega] at e1
    have hk : mp_U (-mr_nR (R := U) n) := by
      obtain ⟨c, hc⟩ := me_n_ne HU (n := n) (by omega) (by omega)
      exact ⟨-c, by grind⟩
    refine me_log HU (y := ca h (n - 1)) hu0 hv0 hz0 hus hvs (Nat.le_trans (mp_xz_row HU HA h n) (by omega)) huv hk hne ?_
    apply mp_cancel hU hsB
    grind
end
end
section
/-! the plain form: rows of 40 numbers for a power of t; lowest terms by the first dependence -/
section
variable {U A : Type}
/-- the polynomial as one line -/
noncomputable def mk_K [Lean.Grind.CommRing U] [Lean.Grind.CommRing A] (cu : U → Nat → FP) (ca : A → Nat → U) (a : A) : U := mp_e ca (mp_m cu 1 40) a
theorem mk_cf [Lean.Grind.CommRing U] [Lean.Grind.CommRing A] {cu : U → Nat → FP} {ca : A → Nat → U} (HU : mp_P cu) (HA : mp_P ca) : ∀ (n : Nat) (a : A), mp_sz ca a ≤ n → mp_xz cu ca a ≤ 40 → ∀ j, cu (mk_K cu ca a) j = cu (ca a (j / 40)) (j % 40) := by
  have hU := mp_dom HU (mp_Fd_nz mp_FP)
  intro n
  induction n with
  | zero =>
    intro a h1 _ j
    have : a = 0 := (mp_sz_0 HA).mp (by omega)
    rw [this, mk_K, mp_e_0 HA hU, mp_zero HU, mp_zero HA, mp_zero HU]
  | succ n ih =>
    intro a h1 h2 j
    obtain ⟨b, hb, -⟩ := mp_unshift HA a
    have hb1 : mp_sz ca b ≤ n := mp_sz_le HA (fun k hk => by rw [hb]; exact mp_sz_out HA (by omega))
    have hb2 : mp_xz cu ca b ≤ 40 := mp_xz_le HU HA (fun i => by rw [hb]; exact Nat.le_trans (mp_xz_row HU HA a _) h2)
    have h0 := Nat.le_trans (mp_xz_row HU HA a 0) h2
    rw [mk_K, mp_e_horner HA hU _ (k := 0) hb, mp_add HU, show mp_e ca (mp_m cu 1 40) b * mp_m cu 1 40 = mp_m cu 1 40 * mp_e ca (mp_m cu 1 40) b by clear ih; grind, mp_m_mul HU]
    by_cases hj : 40 ≤ j
    · have := ih b hb1 hb2 (j - 40)
      rw [mk_K] at this
      rw [if_pos hj, this, hb, mp_sz_out HU (a := ca a 0) (n := j) (by omega), show (j - 40) / 40 + 1 = j / 40 by omega, show (j - 40) % 40 = j % 40 by omega]
      clear ih this
      grind
    · rw [if_neg hj, Nat.div_eq_of_lt (by omega), Nat.mod_eq_of_lt (by omega)]
      clear ih
      grind
theorem mk_inj [Lean.Grind.CommRing U] [Lean.Grind.CommRing A] {cu : U → Nat → FP} {ca : A → Nat → U} (HU : mp_P cu) (HA : mp_P ca) {a b : A} (ha : mp_xz cu ca a ≤ 40) (hb : mp_xz cu ca b ≤ 40) (h : mk_K cu ca a = mk_K cu ca b) : a = b := by
  refine mp_ext HA (fun i => mp_ext HU (fun j => ?_))
  by_cases hj : j < 40
  · have h1 := mk_cf HU HA _ a (Nat.le_refl _) ha (40 * i + j)
    have h2 := mk_cf HU HA _ b (Nat.le_refl _) hb (40 * i + j)
    rw [show (40 * i + j) / 40 = i by omega, show (40 * i + j) % 40 = j by omega] at h1 h2
    rw [← h1, h, h2]
  · rw [mp_sz_out HU (Nat.le_trans (mp_xz_row HU HA a i) (by omega)), mp_sz_out HU (Nat.le_trans (mp_xz_row HU HA b i) (by omega))]
theorem mk_sz [Lean.Grind.CommRing U] [Lean.Grind.CommRing A] {cu : U → Nat → FP} {ca : A → Nat → U} (HU : mp_P cu) (HA : mp_P ca) {a : A} {n : Nat} (ha : mp_xz cu ca a ≤ 40) (hn : mp_sz ca a ≤ n) : mp_sz cu (mk_K cu ca a) ≤ 40 * n := mp_sz_le HU (fun j hj => by rw [mk_cf HU HA _ a (Nat.le_refl _) ha, mp_sz_out HA (by omega), mp_zero HU])
/-- the place of the head among 49 -/
noncomputable def mk_h [Lean.Grind.CommRing U] (cu : U → Nat → FP) (ca : A → Nat → U) (a : A) : Nat := 7 * (mp_sz ca a - 1) + (mp_sz cu (mp_lc ca a) - 1)
theorem mk_h_mul [Lean.Grind.CommRing U] [Lean.Grind.CommRing A] {cu : U → Nat → FP} {ca : A → Nat → U} (HU : mp_P cu) (HA : mp_P ca) {a b : A} (ha : a ≠ 0) (hb : b ≠ 0) : mk_h cu ca (a * b) = mk_h cu ca a + mk_h cu ca b := by
  have hR := mp_Fd_nz mp_FP
  have hU := mp_dom HU hR
  obtain ⟨h1, h2⟩ := mp_lc_mul HA hU ha hb
  have h3 := mp_sz_mul HU hR (mp_lc_ne HA ha) (mp_lc_ne HA hb)
  have p1 := mp_sz_pos HA ha
  have p2 := mp_sz_pos HA hb
  have p3 := mp_sz_pos HU (mp_lc_ne HA ha)
  have p4 := mp_sz_pos HU (mp_lc_ne HA hb)
  rw [mk_h, mk_h, mk_h, h2]
  omega
/-- all powers from 0 to 6 -/
def mk_box [Lean.Grind.CommRing U] (cu : U → Nat → FP) (ca : A → Nat → U) (a : A) : Prop := mp_sz ca a ≤ 7 ∧ mp_xz cu ca a ≤ 7
/-- the polynomial with the numbers f, by places 7 i + j -/
noncomputable def mk_of [Lean.Grind.CommRing U] [Lean.Grind.CommRing A] (cu : U → Nat → FP) (ca : A → Nat → U) (f : Nat → FP) : A := mp_mk ca (fun i => if i < 7 then mp_mk cu (fun j => if j < 7 then f (7 * i + j) else 0) else 0)
theorem mk_of_cf [Lean.Grind.CommRing U] [Lean.Grind.CommRing A] {cu : U → Nat → FP} {ca : A → Nat → U} (HU : mp_P cu) (HA : mp_P ca) (f : Nat → FP) (i j : Nat) : cu (ca (mk_of cu ca f) i) j = if i < 7 ∧ j < 7 then f (7 * i + j) else 0 := by
  rw [mk_of, mp_mk_cf HA 7 (fun n hn => if_neg (by omega))]
  by_cases hi : i < 7
  · rw [if_pos hi, mp_mk_cf HU 7 (fun n hn => if_neg (by omega))]
    by_cases hj : j < 7
    · rw [if_pos hj, if_pos ⟨hi, hj⟩]
    · rw [if_neg hj, if_neg (fun q => hj q.2)]
  · rw [if_neg hi, if_neg (fun q => hi q.1), mp_zero HU]
theorem mk_of_box [Lean.Grind.CommRing U] [Lean.Grind.CommRing A] {cu : U → Nat → FP} {ca : A → Nat → U} (HU : mp_P cu) (HA : mp_P ca) (f : Nat → FP) : mk_box cu ca (mk_of cu ca f) := by
  refine ⟨mp_sz_le HA (fun n hn => mp_ext HU (fun j => by rw [mk_of_cf HU HA, if_neg (by omega), mp_zero HU])), mp_xz_le HU HA (fun i => mp_sz_le HU (fun j hj => by rw [mk_of_cf HU HA, if_neg (by omega)]))⟩
theorem mk_of_eq [Lean.Grind.CommRing U] [Lean.Grind.CommRing A] {cu : U → Nat → FP} {ca : A → Nat → U} (HU : mp_P cu) (HA : mp_P ca) {a : A} (h : mk_box cu ca a) : mk_of cu ca (fun k => cu (ca a (k / 7)) (k % 7)) = a := by
  refine mp_ext HA (fun i => mp_ext HU (fun j => ?_))
  rw [mk_of_cf HU HA]
  by_cases hj : j < 7
  · by_cases hi : i < 7
    · rw [if_pos ⟨hi, hj⟩, show (7 * i + j) / 7 = i by omega, show (7 * i + j) % 7 = j by omega]
    · rw [if_neg (fun q => hi q.1), mp_sz_out HA (by have := h.1; omega), mp_zero HU]
  · rw [if_neg (fun q => hj q.2), mp_sz_out HU (Nat.le_trans (mp_xz_row HU HA a i) (by have := h.2; omega))]
theorem mk_h_at [Lean.Grind.CommRing U] [Lean.Grind.CommRing A] {cu : U → Nat → FP} {ca : A → Nat → U} (HU : mp_P cu) (HA : mp_P ca) {a : A} (ha : a ≠ 0) (h : mk_box cu ca a) : mk_h cu ca a < 49 ∧ cu (ca a (mk_h cu ca a / 7)) (mk_h cu ca a % 7) ≠ 0 := by
  have p1 := mp_sz_pos HA ha
  have p3 := mp_sz_pos HU (mp_lc_ne HA ha)
  have p4 : mp_sz cu (mp_lc ca a) ≤ 7 := Nat.le_trans (mp_xz_row HU HA a _) h.2
  have h1 := h.1
  refine ⟨by rw [mk_h]; omega, ?_⟩
  rw [mk_h, show (7 * (mp_sz ca a - 1) + (mp_sz cu (mp_lc ca a) - 1)) / 7 = mp_sz ca a - 1 by omega, show (7 * (mp_sz ca a - 1) + (mp_sz cu (mp_lc ca a) - 1)) % 7 = mp_sz cu (mp_lc ca a) - 1 by omega]
  exact mp_lc_ne HU (mp_lc_ne HA ha)
theorem mk_h_max [Lean.Grind.CommRing U] [Lean.Grind.CommRing A] {cu : U → Nat → FP} {ca : A → Nat → U} (HU : mp_P cu) (HA : mp_P ca) {a : A} (h : mk_box cu ca a) {k : Nat} (hk : cu (ca a (k / 7)) (k % 7) ≠ 0) : k ≤ mk_h cu ca a := by
  have h1 : ca a (k / 7) ≠ 0 := fun e => hk (by rw [e, mp_zero HU])
  have h2 := mp_sz_lt HA h1
  have h3 := mp_sz_lt HU hk
  have h4 := Nat.le_trans (mp_xz_row HU HA a (k / 7)) h.2
  rw [mk_h]
  by_cases e : k / 7 = mp_sz ca a - 1
  · rw [mp_lc, ← e]; omega
  · omega
/-- the columns: even names of a, odd ones of b -/
noncomputable def mk_V [Lean.Grind.CommRing U] [Lean.Grind.CommRing A] (cu : U → Nat → FP) (ca : A → Nat → U) (a b : A) (k : Nat) : U := mp_m cu 1 (40 * (k / 2 / 7) + k / 2 % 7) * mk_K cu ca (if k % 2 = 0 then a else b)
theorem mk_K_mm [Lean.Grind.CommRing U] [Lean.Grind.CommRing A] {cu : U → Nat → FP} {ca : A → Nat → U} (HU : mp_P cu) (HA : mp_P ca) (i : Nat) {j : Nat} (hj : j < 40) : mk_K cu ca (mp_mm cu ca i j) = mp_m cu 1 (40 * i + j) := by
  refine mp_ext HU (fun n => ?_)
  rw [mk_cf HU HA _ _ (Nat.le_refl _) (mp_xz_le HU HA (fun i' => mp_sz_le HU (fun k hk => by rw [mp_mm_cf HU HA, if_neg (by omega)]))), mp_mm_cf HU HA, mp_m_cf HU]
  by_cases h : n = 40 * i + j
  · rw [if_pos h, if_pos (by omega)]
  · rw [if_neg h, if_neg (by omega)]
theorem mk_S2 {R : Type} [Lean.Grind.CommRing R] (f : Nat → R) : ∀ n, mp_S (2 * n) f = mp_S n (fun k => f (2 * k)) + mp_S n (fun k => f (2 * k + 1))
  | 0 => by show (0 : R) = 0 + 0; grind
  | n + 1 => by
    rw [show 2 * (n + 1) = 2 * n + 1 + 1 by omega, mp_S_s, mp_S_s, mk_S2 f n, mp_S_s, mp_S_s]
    grind
theorem mk_of_sum [Lean.Grind.CommRing U] [Lean.Grind.CommRing A] {cu : U → Nat → FP} {ca : A → Nat → U} (HU : mp_P cu) (HA : mp_P ca) (f : Nat → FP) : mk_of cu ca f = mp_S 49 (fun k => mp_C ca (mp_C cu (f k)) * mp_mm cu ca (k / 7) (k % 7)) := by
  refine mp_ext HA (fun i => mp_ext HU (fun j => ?_))
  rw [mk_of_cf HU HA, mp_sum HA, mp_sum HU]
  by_cases h : i < 7 ∧ j < 7
  · rw [if_pos h, mp_S_one (k := 7 * i + j) (by omega) (fun k hk hki => by rw [mp_CC_mul HU HA, mp_mm_cf HU HA, if_neg (by omega)]; grind), mp_CC_mul HU HA, mp_mm_cf HU HA, if_pos (by omega)]
    grind
  · rw [if_neg h]
    exact (mp_S_zero (fun k hk => by rw [mp_CC_mul HU HA, mp_mm_cf HU HA, if_neg (by omega)]; grind)).symm
/-- numbers of the columns that make 0: a pair that crosses out -/
theorem mk_cross [Lean.Grind.CommRing U] [Lean.Grind.CommRing A] {cu : U → Nat → FP} {ca : A → Nat → U} (HU : mp_P cu) (HA : mp_P ca) {a b : A} (hb : b ≠ 0) (ha1 : mp_xz cu ca a ≤ 34) (hb1 : mp_xz cu ca b ≤ 34) (f : Nat → FP) : mp_S 98 (fun k => mp_C cu (f k) * mk_V cu ca a b k) = 0 ↔ mk_of cu ca (fun k => f (2 * k)) * a = mk_of cu ca (fun k => -f (2 * k + 1)) * b := by
  have hU := mp_dom HU (mp_Fd_nz mp_FP)
  have hAd := mp_dom HA hU
  have hx : ∀ (f : Nat → FP) (c : A), mp_xz cu ca c ≤ 34 → mp_xz cu ca (mk_of cu ca f * c) ≤ 40 := by
    intro f c hc
    have h1 := (mk_of_box HU HA f).2
    by_cases h0 : mk_of cu ca f = 0
    · rw [h0, show (0 : A) * c = 0 by grind]
      rw [show mp_xz cu ca (0 : A) = 0 from (mp_sz_0 (mp_sw_P HU HA)).mpr rfl]
      omega
    · by_cases hc0 : c = 0
      · rw [hc0, show mk_of cu ca f * 0 = 0 by grind, show mp_xz cu ca (0 : A) = 0 from (mp_sz_0 (mp_sw_P HU HA)).mpr rfl]
        omega
      · have := mp_xz_mul mp_FP HU HA h0 hc0
        omega
  have hK : ∀ (f : Nat → FP) (c : A), mk_K cu ca (mk_of cu ca f * c) = mp_S 49 (fun k => mp_C cu (f k) * (mp_m cu 1 (40 * (k / 7) + k % 7) * mk_K cu ca c)) := by
    intro f c
    rw [mk_K, mp_e_mul HA hU, mk_of_sum HU HA, mp_e_S HA hU, ← mp_S_mulr]
    refine mp_S_cong (fun k _ => ?_)
    rw [mp_e_mul HA hU, mp_e_C HA hU]
    have := mk_K_mm HU HA (k / 7) (j := k % 7) (by omega)
    rw [mk_K] at this
    rw [this, mk_K]
    grind
  have e1 : mp_S 98 (fun k => mp_C cu (f k) * mk_V cu ca a b k) = mk_K cu ca (mk_of cu ca (fun k => f (2 * k)) * a) - mk_K cu ca (mk_of cu ca (fun k => -f (2 * k + 1)) * b) := by
    rw [show 98 = 2 * 49 from rfl, mk_S2, hK, hK]
    have h1 : mp_S 49 (fun k => mp_C cu (f (2 * k)) * mk_V cu ca a b (2 * k)) = mp_S 49 (fun k => mp_C cu (f (2 * k)) * (mp_m cu 1 (40 * (k / 7) + k % 7) * mk_K cu ca a)) := mp_S_cong (fun k _ => by
      rw [mk_V, show 2 * k / 2 = k by omega, if_pos (by omega)])
    have h2 : mp_S 49 (fun k => mp_C cu (f (2 * k + 1)) * mk_V cu ca a b (2 * k + 1)) = mp_S 49 (fun k => (-1) * (mp_C cu (-f (2 * k + 1)) * (mp_m cu 1 (40 * (k / 7) + k % 7) * mk_K cu ca b))) := mp_S_cong (fun k _ => by
      rw [mk_V, show (2 * k + 1) / 2 = k by omega, if_neg (by omega), mp_C_neg HU]
      grind)
    rw [h1, h2, mp_S_mul]
    grind
  rw [e1]
  constructor
  · intro h
    exact mk_inj HU HA (hx _ _ ha1) (hx _ _ hb1) (by grind)
  · intro h
    rw [h]
    grind
/-- what reduce finds -/
theorem mk_true [Lean.Grind.CommRing U] [Lean.Grind.CommRing A] {cu : U → Nat → FP} {ca : A → Nat → U} (HU : mp_P cu) (HA : mp_P ca) {a b p q : A} (hb : b ≠ 0) (ha1 : mp_xz cu ca a ≤ 34) (hb1 : mp_xz cu ca b ≤ 34) (hl : mp_LT a b p q) {f : Nat → FP} {n : Nat} (hn : n < 98) (hf1 : f n ≠ 0) (hf2 : ∀ k, n < k → k < 98 → f k = 0) (hf : mp_S 98 (fun k => mp_C cu (f k) * mk_V cu ca a b k) = 0)
    (hi : ∀ c : Nat → FP, mp_S n (fun k => mp_C cu (c k) * mk_V cu ca a b k) = 0 → ∀ k, k < n → c k = 0) :
    ∃ r : FP, r ≠ 0 ∧ mk_of cu ca (fun k => f (2 * k)) = mp_C ca (mp_C cu r) * q ∧ mk_of cu ca (fun k => -f (2 * k + 1)) = mp_C ca (mp_C cu r) * p ∧ mk_box cu ca p ∧ mk_box cu ca q := by
  have hU := mp_dom HU (mp_Fd_nz mp_FP)
  have hAd := mp_dom HA hU
  obtain ⟨s, h1, h2⟩ := hl.2.2 _ _ ((mk_cross HU HA hb ha1 hb1 f).mp hf)
  have b1 := mk_of_box HU HA (cu := cu) (ca := ca) (fun k => f (2 * k))
  have b2 := mk_of_box HU HA (cu := cu) (ca := ca) (fun k => -f (2 * k + 1))
  have g1 : ∀ k, k < 49 → cu (ca (mk_of cu ca (fun k => f (2 * k))) (k / 7)) (k % 7) = f (2 * k) := fun k hk => by rw [mk_of_cf HU HA, if_pos (by omega), show 7 * (k / 7) + k % 7 = k by omega]
  have g2 : ∀ k, k < 49 → cu (ca (mk_of cu ca (fun k => -f (2 * k + 1))) (k / 7)) (k % 7) = -f (2 * k + 1) := fun k hk => by rw [mk_of_cf HU HA, if_pos (by omega), show 7 * (k / 7) + k % 7 = k by omega]
  have hs0 : s ≠ 0 := by
    intro e
    have z1 : mk_of cu ca (fun k => f (2 * k)) = 0 := by rw [h1, e]; grind
    have z2 : mk_of cu ca (fun k => -f (2 * k + 1)) = 0 := by rw [h2, e]; grind
    by_cases hp : n % 2 = 0
    · have := g1 (n / 2) (by omega)
      rw [z1, mp_zero HA, mp_zero HU, show 2 * (n / 2) = n by omega] at this
      exact hf1 this.symm
    · have := g2 (n / 2) (by omega)
      rw [z2, mp_zero HA, mp_zero HU, show 2 * (n / 2) + 1 = n by omega] at this
      exact hf1 (by grind)
  have hq0 := hl.1
  have bq : mk_box cu ca q := ⟨Nat.le_trans (mp_D_sz HA hU ⟨s, h1⟩ (by rw [h1]; exact mp_nz_mul hAd hq0 hs0)) b1.1, Nat.le_trans (mp_D_sz (mp_sw_P HU HA) hU ⟨s, h1⟩ (by rw [h1]; exact mp_nz_mul hAd hq0 hs0)) b1.2⟩
  have bp : mk_box cu ca p := by
    by_cases hp0 : p = 0
    · rw [hp0]
      exact ⟨by rw [(mp_sz_0 HA).mpr rfl]; omega, by rw [show mp_xz cu ca (0 : A) = 0 from (mp_sz_0 (mp_sw_P HU HA)).mpr rfl]; omega⟩
    · exact ⟨Nat.le_trans (mp_D_sz HA hU ⟨s, h2⟩ (by rw [h2]; exact mp_nz_mul hAd hp0 hs0)) b2.1, Nat.le_trans (mp_D_sz (mp_sw_P HU HA) hU ⟨s, h2⟩ (by rw [h2]; exact mp_nz_mul hAd hp0 hs0)) b2.2⟩
  have hsz : mk_h cu ca s = 0 := by
    refine Classical.byContradiction (fun hne => ?_)
    let c : Nat → FP := fun k => if k % 2 = 0 then cu (ca q (k / 2 / 7)) (k / 2 % 7) else -cu (ca p (k / 2 / 7)) (k / 2 % 7)
    have c1 : mk_of cu ca (fun k => c (2 * k)) = q := by
      have : (fun k => c (2 * k)) = fun k => cu (ca q (k / 7)) (k % 7) := funext (fun k => by
        show (if 2 * k % 2 = 0 then cu (ca q (2 * k / 2 / 7)) (2 * k / 2 % 7) else _) = _
        rw [if_pos (by omega), show 2 * k / 2 = k by omega])
      rw [this, mk_of_eq HU HA bq]
    have c2 : mk_of cu ca (fun k => -c (2 * k + 1)) = p := by
      have : (fun k => -c (2 * k + 1)) = fun k => cu (ca p (k / 7)) (k % 7) := funext (fun k => by
        show -(if (2 * k + 1) % 2 = 0 then _ else -cu (ca p ((2 * k + 1) / 2 / 7)) ((2 * k + 1) / 2 % 7)) = _
        rw [if_neg (by omega), show (2 * k + 1) / 2 = k by omega]
        grind)
      rw [this, mk_of_eq HU HA bp]
    have hz : ∀ k, n ≤ k → k < 98 → c k = 0 := by
      intro k hk1 hk2
      refine Classical.byContradiction (fun hck => ?_)
      by_cases hp : k % 2 = 0
      · have e1 : c k = cu (ca q (k / 2 / 7)) (k / 2 % 7) := if_pos hp
        rw [e1] at hck
        have m1 := mk_h_max HU HA bq hck
        have m2 := mk_h_mul HU HA hq0 hs0
        rw [← h1] at m2
        obtain ⟨m3, m4⟩ := mk_h_at HU HA (by rw [h1]; exact mp_nz_mul hAd hq0 hs0) b1
        rw [g1 _ m3] at m4
        exact m4 (hf2 _ (by omega) (by omega))
      · have e1 : c k = -cu (ca p (k / 2 / 7)) (k / 2 % 7) := if_neg hp
        have hck2 : cu (ca p (k / 2 / 7)) (k / 2 % 7) ≠ 0 := fun z => hck (by rw [e1, z]; grind)
        have hp0 : p ≠ 0 := fun z => hck2 (by rw [z, mp_zero HA, mp_zero HU])
        have m1 := mk_h_max HU HA bp hck2
        have m2 := mk_h_mul HU HA hp0 hs0
        rw [← h2] at m2
        obtain ⟨m3, m4⟩ := mk_h_at HU HA (by rw [h2]; exact mp_nz_mul hAd hp0 hs0) b2
        rw [g2 _ m3] at m4
        exact m4 (by rw [hf2 _ (by omega) (by omega)]; grind)
    have hsum := (mk_cross HU HA hb ha1 hb1 c).mpr (by rw [c1, c2]; exact hl.2.1)
    rw [mp_S_more (n := n) (by omega) (fun k hk1 hk2 => by rw [hz k hk1 hk2, mp_C_0 HU]; grind)] at hsum
    have hall := hi c hsum
    obtain ⟨m3, m4⟩ := mk_h_at HU HA hq0 bq
    have e1 : c (2 * mk_h cu ca q) = cu (ca q (mk_h cu ca q / 7)) (mk_h cu ca q % 7) := by
      show (if 2 * mk_h cu ca q % 2 = 0 then cu (ca q (2 * mk_h cu ca q / 2 / 7)) (2 * mk_h cu ca q / 2 % 7) else _) = _
      rw [if_pos (by omega), show 2 * mk_h cu ca q / 2 = mk_h cu ca q by omega]
    refine m4 (e1.symm.trans ?_)
    by_cases hlt : 2 * mk_h cu ca q < n
    · exact hall _ hlt
    · exact hz _ (by omega) (by omega)
  have p1 := mp_sz_pos HA hs0
  have p3 := mp_sz_pos HU (mp_lc_ne HA hs0)
  obtain ⟨r, hr0, hr⟩ := mp_mu_U mp_FP HU HA hs0 (by rw [mk_h] at hsz; rw [mp_mu]; omega)
  exact ⟨r, hr0, by rw [h1, hr]; grind, by rw [h2, hr]; grind, bp, bq⟩
/-- where reduce finds nothing it is too great -/
theorem mk_false [Lean.Grind.CommRing U] [Lean.Grind.CommRing A] {cu : U → Nat → FP} {ca : A → Nat → U} (HU : mp_P cu) (HA : mp_P ca) {a b p q : A} (hb : b ≠ 0) (ha1 : mp_xz cu ca a ≤ 34) (hb1 : mp_xz cu ca b ≤ 34) (hl : mp_LT a b p q)
    (hi : ∀ c : Nat → FP, mp_S 98 (fun k => mp_C cu (c k) * mk_V cu ca a b k) = 0 → ∀ k, k < 98 → c k = 0) : ¬ (mk_box cu ca p ∧ mk_box cu ca q) := by
  rintro ⟨bp, bq⟩
  let c : Nat → FP := fun k => if k % 2 = 0 then cu (ca q (k / 2 / 7)) (k / 2 % 7) else -cu (ca p (k / 2 / 7)) (k / 2 % 7)
  have c1 : mk_of cu ca (fun k => c (2 * k)) = q := by
    have : (fun k => c (2 * k)) = fun k => cu (ca q (k / 7)) (k % 7) := funext (fun k => by
      show (if 2 * k % 2 = 0 then cu (ca q (2 * k / 2 / 7)) (2 * k / 2 % 7) else _) = _
      rw [if_pos (by omega), show 2 * k / 2 = k by omega])
    rw [this, mk_of_eq HU HA bq]
  have c2 : mk_of cu ca (fun k => -c (2 * k + 1)) = p := by
    have : (fun k => -c (2 * k + 1)) = fun k => cu (ca p (k / 7)) (k % 7) := funext (fun k => by
      show -(if (2 * k + 1) % 2 = 0 then _ else -cu (ca p ((2 * k + 1) / 2 / 7)) ((2 * k + 1) / 2 % 7)) = _
      rw [if_neg (by omega), show (2 * k + 1) / 2 = k by omega]
      grind)
    rw [this, mk_of_eq HU HA bp]
  have hall := hi c ((mk_cross HU HA hb ha1 hb1 c).mpr (by rw [c1, c2]; exact hl.2.1))
  obtain ⟨m3, m4⟩ := mk_h_at HU HA hl.1 bq
  have e1 : c (2 * mk_h cu ca q) = cu (ca q (mk_h cu ca q / 7)) (mk_h cu ca q % 7) := by
    show (if 2 * mk_h cu ca q % 2 = 0 then cu (ca q (2 * mk_h cu ca q / 2 / 7)) (2 * mk_h cu ca q / 2 % 7) else _) = _
    rw [if_pos (by omega), show 2 * mk_h cu ca q / 2 = mk_h cu ca q by omega]
  exact m4 (e1.symm.trans (hall _ (by omega)))
end
end
