section
/-! numbers modulo 32003 -/
abbrev FP : Type := Fin 32003
/-- powers by squaring, as both programs do it: r * s^n -/
def mf_pw : Nat → Nat → Nat → Nat → Nat
  | 0, _, r, _ => r
  | k + 1, n, r, s => mf_pw k (n / 2) (if n % 2 = 1 then r * s % 32003 else r) (s * s % 32003)
def mf_in (a : Nat) : Nat := mf_pw 15 32001 1 a
def mf_all : Nat → Nat → Bool
  | 0, a => a % 32003 == 0 || (a * mf_in a) % 32003 == 1
  | k + 1, a => mf_all k (2 * a) && mf_all k (2 * a + 1)
set_option maxRecDepth 100000 in
theorem mf_all_ok : mf_all 15 0 = true := by decide +kernel
theorem mf_all_at : ∀ (k a b : Nat), mf_all k a = true → b < 2 ^ k → (2 ^ k * a + b) % 32003 = 0 ∨ ((2 ^ k * a + b) * mf_in (2 ^ k * a + b)) % 32003 = 1
  | 0, a, b, h, hb => by
    have hb0 : b = 0 := by simp at hb; omega
    subst hb0
    simp only [Nat.pow_zero, Nat.one_mul, Nat.add_zero]
    simp only [mf_all, Bool.or_eq_true, beq_iff_eq] at h
    exact h
  | k + 1, a, b, h, hb => by
    simp only [mf_all, Bool.and_eq_true] at h
    rw [Nat.pow_succ] at hb
    by_cases hc : b < 2 ^ k
    · have := mf_all_at k (2 * a) b h.1 hc
      rw [show 2 ^ (k + 1) * a + b = 2 ^ k * (2 * a) + b by rw [Nat.pow_succ, Nat.mul_assoc]]
      exact this
    · have := mf_all_at k (2 * a + 1) (b - 2 ^ k) h.2 (by omega)
      rw [show 2 ^ (k + 1) * a + b = 2 ^ k * (2 * a + 1) + (b - 2 ^ k) by rw [Nat.pow_succ, Nat.mul_assoc, Nat.mul_add]; omega]
      exact this
theorem mf_pw_lt : ∀ (k n r s : Nat), r < 32003 → mf_pw k n r s < 32003
  | 0, _, _, _, h => h
  | k + 1, n, r, s, h => by
    unfold mf_pw
    apply mf_pw_lt
    split
    · exact Nat.mod_lt _ (by omega)
    · exact h
theorem mf_in_lt (a : Nat) : mf_in a < 32003 := mf_pw_lt _ _ _ _ (by omega)
/-- the inverse, 0 of 0 -/
def mf_inv (a : FP) : FP := ⟨mf_in a.val, mf_in_lt _⟩
theorem mf_mul_inv {a : FP} (h : a ≠ 0) : a * mf_inv a = 1 := by
  have h1 := mf_all_at 15 0 a.val mf_all_ok (Nat.lt_trans a.isLt (by decide))
  simp only [Nat.mul_zero, Nat.zero_add] at h1
  have h2 : a.val % 32003 = a.val := Nat.mod_eq_of_lt a.isLt
  rcases h1 with h1 | h1
  · exact absurd (Fin.ext (by rw [h2] at h1; exact h1)) h
  · apply Fin.ext
    rw [Fin.val_mul]
    exact h1
theorem mf_inv_0 : mf_inv 0 = 0 := by decide +kernel
theorem mf_inv_1 : mf_inv 1 = 1 := by decide +kernel
theorem mf_nz {a b : FP} (h : a * b = 0) : a = 0 ∨ b = 0 := by
  by_cases ha : a = 0
  · exact Or.inl ha
  · right
    have h1 := mf_mul_inv ha
    grind
theorem mf_inv_ne {a : FP} (h : a ≠ 0) : mf_inv a ≠ 0 := by
  intro hz
  have h1 := mf_mul_inv h
  rw [hz] at h1
  have : (1 : FP) ≠ 0 := by decide
  grind
theorem mf_one_ne : (1 : FP) ≠ 0 := by decide
/-- a natural number as a number -/
def mf_n (n : Nat) : FP := Fin.ofNat 32003 n
theorem mf_n_add (a b : Nat) : mf_n (a + b) = mf_n a + mf_n b := by
  apply Fin.ext
  simp [mf_n, Fin.val_add, Fin.ofNat]
theorem mf_n_mul (a b : Nat) : mf_n (a * b) = mf_n a * mf_n b := by
  apply Fin.ext
  simp [mf_n, Fin.val_mul, Fin.ofNat, Nat.mul_mod]
theorem mf_n_0 : mf_n 0 = 0 := rfl
theorem mf_n_1 : mf_n 1 = 1 := rfl
theorem mf_n_val (a : FP) : mf_n a.val = a := by
  apply Fin.ext
  exact Nat.mod_eq_of_lt a.isLt
theorem mf_n_ne {n : Nat} (h0 : 0 < n) (h : n < 32003) : mf_n n ≠ 0 := by
  intro hz
  have : (mf_n n).val = 0 := by rw [hz]; rfl
  simp only [mf_n, Fin.ofNat] at this
  rw [Nat.mod_eq_of_lt h] at this
  omega
end
section
/-! sums, and polynomials in one letter over a ring, by their coefficients -/
def mp_S {R : Type} [Lean.Grind.CommRing R] : Nat → (Nat → R) → R
  | 0, _ => 0
  | n + 1, f => mp_S n f + f n
theorem mp_S_0 {R : Type} [Lean.Grind.CommRing R] (f : Nat → R) : mp_S 0 f = 0 := rfl
theorem mp_S_s {R : Type} [Lean.Grind.CommRing R] (n : Nat) (f : Nat → R) : mp_S (n + 1) f = mp_S n f + f n := rfl
theorem mp_S_cong {R : Type} [Lean.Grind.CommRing R] {f g : Nat → R} : ∀ {n : Nat}, (∀ i, i < n → f i = g i) → mp_S n f = mp_S n g
  | 0, _ => rfl
  | n + 1, h => by rw [mp_S_s, mp_S_s, mp_S_cong (fun i hi => h i (by omega)), h n (by omega)]
theorem mp_S_zero {R : Type} [Lean.Grind.CommRing R] {f : Nat → R} : ∀ {n : Nat}, (∀ i, i < n → f i = 0) → mp_S n f = 0
  | 0, _ => rfl
  | n + 1, h => by rw [mp_S_s, mp_S_zero (fun i hi => h i (by omega)), h n (by omega)]; grind
theorem mp_S_add {R : Type} [Lean.Grind.CommRing R] (f g : Nat → R) : ∀ n, mp_S n (fun i => f i + g i) = mp_S n f + mp_S n g
  | 0 => by rw [mp_S_0, mp_S_0, mp_S_0]; grind
  | n + 1 => by rw [mp_S_s, mp_S_s, mp_S_s, mp_S_add f g n]; grind
theorem mp_S_mul {R : Type} [Lean.Grind.CommRing R] (c : R) (f : Nat → R) : ∀ n, mp_S n (fun i => c * f i) = c * mp_S n f
  | 0 => by rw [mp_S_0, mp_S_0]; grind
  | n + 1 => by rw [mp_S_s, mp_S_s, mp_S_mul c f n]; grind
theorem mp_S_mulr {R : Type} [Lean.Grind.CommRing R] (c : R) (f : Nat → R) (n : Nat) : mp_S n (fun i => f i * c) = mp_S n f * c := by
  rw [show mp_S n f * c = c * mp_S n f by grind, ← mp_S_mul]
  exact mp_S_cong (fun i _ => by grind)
/-- one term alone -/
theorem mp_S_one {R : Type} [Lean.Grind.CommRing R] {f : Nat → R} {k : Nat} : ∀ {n : Nat}, k < n → (∀ i, i < n → i ≠ k → f i = 0) → mp_S n f = f k
  | 0, h, _ => absurd h (Nat.not_lt_zero _)
  | n + 1, h, h2 => by
    rw [mp_S_s]
    by_cases hk : k = n
    · subst hk
      rw [mp_S_zero (fun i hi => h2 i (by omega) (by omega))]; grind
    · rw [mp_S_one (k := k) (by omega) (fun i hi => h2 i (by omega)), h2 n (by omega) (fun e => hk e.symm)]; grind
/-- the first term apart -/
theorem mp_S_first {R : Type} [Lean.Grind.CommRing R] (f : Nat → R) : ∀ n, mp_S (n + 1) f = f 0 + mp_S n (fun i => f (i + 1))
  | 0 => by rw [mp_S_s, mp_S_0, mp_S_0]; grind
  | n + 1 => by rw [mp_S_s, mp_S_first f n, mp_S_s]; grind
theorem mp_S_more {R : Type} [Lean.Grind.CommRing R] {f : Nat → R} {n : Nat} : ∀ {m : Nat}, n ≤ m → (∀ i, n ≤ i → i < m → f i = 0) → mp_S m f = mp_S n f
  | 0, h, _ => by rw [show n = 0 by omega]
  | m + 1, h, h2 => by
    by_cases e : n = m + 1
    · rw [e]
    · rw [mp_S_s, mp_S_more (m := m) (by omega) (fun i h1 h3 => h2 i h1 (by omega)), h2 m (by omega) (by omega)]; grind
theorem mp_S_swap {R : Type} [Lean.Grind.CommRing R] (F : Nat → Nat → R) (m : Nat) : ∀ n, mp_S n (fun i => mp_S m (fun j => F i j)) = mp_S m (fun j => mp_S n (fun i => F i j))
  | 0 => by rw [mp_S_0]; exact (mp_S_zero (fun _ _ => rfl)).symm
  | n + 1 => by
    rw [mp_S_s, mp_S_swap F m n, ← mp_S_add]
    exact mp_S_cong (fun j _ => (mp_S_s _ _).symm)
theorem mp_S_rev {R : Type} [Lean.Grind.CommRing R] : ∀ (n : Nat) (f : Nat → R), mp_S n f = mp_S n (fun i => f (n - 1 - i))
  | 0, _ => rfl
  | n + 1, f => by
    rw [mp_S_first (fun i => f (n + 1 - 1 - i)), mp_S_s, mp_S_rev n f]
    have : mp_S n (fun i => f (n + 1 - 1 - (i + 1))) = mp_S n (fun i => f (n - 1 - i)) := mp_S_cong (fun i hi => by rw [show n + 1 - 1 - (i + 1) = n - 1 - i by omega])
    rw [this]
    simp only [Nat.add_sub_cancel, Nat.sub_zero]
    grind
/-- A is the ring of polynomials over R, cf their coefficients -/
def mp_P {R A : Type} [Lean.Grind.CommRing R] [Lean.Grind.CommRing A] (cf : A → Nat → R) : Prop :=
  (∀ a b, (∀ n, cf a n = cf b n) → a = b) ∧ (∀ a b n, cf (a + b) n = cf a n + cf b n) ∧ (∀ a b n, cf (a * b) n = mp_S (n + 1) (fun i => cf a i * cf b (n - i))) ∧
  (∀ a, ∃ N, ∀ n, N ≤ n → cf a n = 0) ∧ (∀ (g : Nat → R) (N : Nat), (∀ n, N ≤ n → g n = 0) → ∃ a, ∀ n, cf a n = g n) ∧ (∀ n, cf 1 n = if n = 0 then 1 else 0)
section
variable {R A : Type}
theorem mp_ext [Lean.Grind.CommRing R] [Lean.Grind.CommRing A] {cf : A → Nat → R} (H : mp_P cf) {a b : A} (h : ∀ n, cf a n = cf b n) : a = b := H.1 a b h
theorem mp_add [Lean.Grind.CommRing R] [Lean.Grind.CommRing A] {cf : A → Nat → R} (H : mp_P cf) (a b : A) (n : Nat) : cf (a + b) n = cf a n + cf b n := H.2.1 a b n
theorem mp_mul [Lean.Grind.CommRing R] [Lean.Grind.CommRing A] {cf : A → Nat → R} (H : mp_P cf) (a b : A) (n : Nat) : cf (a * b) n = mp_S (n + 1) (fun i => cf a i * cf b (n - i)) := H.2.2.1 a b n
theorem mp_zero [Lean.Grind.CommRing R] [Lean.Grind.CommRing A] {cf : A → Nat → R} (H : mp_P cf) (n : Nat) : cf 0 n = 0 := by
  have h := mp_add H 0 0 n
  rw [show (0 : A) + 0 = 0 by grind] at h
  grind
theorem mp_neg [Lean.Grind.CommRing R] [Lean.Grind.CommRing A] {cf : A → Nat → R} (H : mp_P cf) (a : A) (n : Nat) : cf (-a) n = - cf a n := by
  have h := mp_add H a (-a) n
  rw [show a + -a = 0 by grind, mp_zero H] at h
  grind
theorem mp_sub [Lean.Grind.CommRing R] [Lean.Grind.CommRing A] {cf : A → Nat → R} (H : mp_P cf) (a b : A) (n : Nat) : cf (a - b) n = cf a n - cf b n := by
  rw [show a - b = a + -b by grind, mp_add H, mp_neg H]
  grind
theorem mp_one [Lean.Grind.CommRing R] [Lean.Grind.CommRing A] {cf : A → Nat → R} (H : mp_P cf) (n : Nat) : cf 1 n = if n = 0 then 1 else 0 := H.2.2.2.2.2 n
theorem mp_sum [Lean.Grind.CommRing R] [Lean.Grind.CommRing A] {cf : A → Nat → R} (H : mp_P cf) (F : Nat → A) (n : Nat) : ∀ m, cf (mp_S m F) n = mp_S m (fun i => cf (F i) n)
  | 0 => mp_zero H n
  | m + 1 => by rw [mp_S_s, mp_S_s, mp_add H, mp_sum H F n m]
/-- the polynomial with these coefficients -/
noncomputable def mp_mk [Lean.Grind.CommRing R] [Lean.Grind.CommRing A] (cf : A → Nat → R) (g : Nat → R) : A := @Classical.epsilon A ⟨0⟩ (fun a => ∀ n, cf a n = g n)
theorem mp_mk_cf [Lean.Grind.CommRing R] [Lean.Grind.CommRing A] {cf : A → Nat → R} (H : mp_P cf) {g : Nat → R} (N : Nat) (h : ∀ n, N ≤ n → g n = 0) (n : Nat) : cf (mp_mk cf g) n = g n :=
  @Classical.epsilon_spec A (fun a => ∀ n, cf a n = g n) (H.2.2.2.2.1 g N h) n
theorem mp_mk_eq [Lean.Grind.CommRing R] [Lean.Grind.CommRing A] {cf : A → Nat → R} (H : mp_P cf) (a : A) : mp_mk cf (cf a) = a := by
  obtain ⟨N, hN⟩ := H.2.2.2.1 a
  exact mp_ext H (fun n => mp_mk_cf H N hN n)
/-- the term r times the letter to the k -/
noncomputable def mp_m [Lean.Grind.CommRing R] [Lean.Grind.CommRing A] (cf : A → Nat → R) (r : R) (k : Nat) : A := mp_mk cf (fun n => if n = k then r else 0)
theorem mp_m_cf [Lean.Grind.CommRing R] [Lean.Grind.CommRing A] {cf : A → Nat → R} (H : mp_P cf) (r : R) (k n : Nat) : cf (mp_m cf r k) n = if n = k then r else 0 :=
  mp_mk_cf H (k + 1) (fun n h => if_neg (by omega)) n
theorem mp_m_mul [Lean.Grind.CommRing R] [Lean.Grind.CommRing A] {cf : A → Nat → R} (H : mp_P cf) (r : R) (k : Nat) (a : A) (n : Nat) : cf (mp_m cf r k * a) n = if k ≤ n then r * cf a (n - k) else 0 := by
  rw [mp_mul H]
  by_cases h : k ≤ n
  · rw [if_pos h, mp_S_one (k := k) (by omega) (fun i _ hi => by rw [mp_m_cf H, if_neg hi]; grind), mp_m_cf H, if_pos rfl]
  · rw [if_neg h]
    exact mp_S_zero (fun i hi => by rw [mp_m_cf H, if_neg (by omega)]; grind)
/-- constants -/
noncomputable def mp_C [Lean.Grind.CommRing R] [Lean.Grind.CommRing A] (cf : A → Nat → R) (r : R) : A := mp_m cf r 0
theorem mp_C_cf [Lean.Grind.CommRing R] [Lean.Grind.CommRing A] {cf : A → Nat → R} (H : mp_P cf) (r : R) (n : Nat) : cf (mp_C cf r) n = if n = 0 then r else 0 := mp_m_cf H r 0 n
theorem mp_C_mul [Lean.Grind.CommRing R] [Lean.Grind.CommRing A] {cf : A → Nat → R} (H : mp_P cf) (r : R) (a : A) (n : Nat) : cf (mp_C cf r * a) n = r * cf a n := by
  rw [mp_C, mp_m_mul H, if_pos (Nat.zero_le _), Nat.sub_zero]
theorem mp_C_1 [Lean.Grind.CommRing R] [Lean.Grind.CommRing A] {cf : A → Nat → R} (H : mp_P cf) : mp_C cf 1 = 1 := mp_ext H (fun n => by rw [mp_C_cf H, mp_one H])
theorem mp_C_0 [Lean.Grind.CommRing R] [Lean.Grind.CommRing A] {cf : A → Nat → R} (H : mp_P cf) : mp_C cf 0 = 0 := mp_ext H (fun n => by rw [mp_C_cf H, mp_zero H]; split <;> rfl)
theorem mp_C_add [Lean.Grind.CommRing R] [Lean.Grind.CommRing A] {cf : A → Nat → R} (H : mp_P cf) (r s : R) : mp_C cf (r + s) = mp_C cf r + mp_C cf s := mp_ext H (fun n => by rw [mp_add H, mp_C_cf H, mp_C_cf H, mp_C_cf H]; split <;> grind)
theorem mp_C_mulC [Lean.Grind.CommRing R] [Lean.Grind.CommRing A] {cf : A → Nat → R} (H : mp_P cf) (r s : R) : mp_C cf (r * s) = mp_C cf r * mp_C cf s := mp_ext H (fun n => by rw [mp_C_mul H, mp_C_cf H, mp_C_cf H]; split <;> grind)
theorem mp_C_neg [Lean.Grind.CommRing R] [Lean.Grind.CommRing A] {cf : A → Nat → R} (H : mp_P cf) (r : R) : mp_C cf (-r) = -mp_C cf r := mp_ext H (fun n => by rw [mp_neg H, mp_C_cf H, mp_C_cf H]; split <;> grind)
theorem mp_C_sub [Lean.Grind.CommRing R] [Lean.Grind.CommRing A] {cf : A → Nat → R} (H : mp_P cf) (r s : R) : mp_C cf (r - s) = mp_C cf r - mp_C cf s := mp_ext H (fun n => by rw [mp_sub H, mp_C_cf H, mp_C_cf H, mp_C_cf H]; split <;> grind)
theorem mp_C_inj [Lean.Grind.CommRing R] [Lean.Grind.CommRing A] {cf : A → Nat → R} (H : mp_P cf) {r s : R} (h : mp_C cf r = mp_C cf s) : r = s := by
  have := congrArg (fun a => cf a 0) h
  simpa [mp_C_cf H] using this
theorem mp_m_add [Lean.Grind.CommRing R] [Lean.Grind.CommRing A] {cf : A → Nat → R} (H : mp_P cf) (r s : R) (k : Nat) : mp_m cf (r + s) k = mp_m cf r k + mp_m cf s k := mp_ext H (fun n => by rw [mp_add H, mp_m_cf H, mp_m_cf H, mp_m_cf H]; split <;> grind)
theorem mp_m_mulm [Lean.Grind.CommRing R] [Lean.Grind.CommRing A] {cf : A → Nat → R} (H : mp_P cf) (r s : R) (k j : Nat) : mp_m cf r k * mp_m cf s j = mp_m cf (r * s) (k + j) := mp_ext H (fun n => by
  rw [mp_m_mul H, mp_m_cf H, mp_m_cf H]
  by_cases h : n = k + j
  · rw [if_pos (by omega), if_pos (by omega), if_pos h]
  · rw [if_neg h]
    split
    · rw [if_neg (by omega)]; grind
    · rfl)
theorem mp_m_C [Lean.Grind.CommRing R] [Lean.Grind.CommRing A] {cf : A → Nat → R} (H : mp_P cf) (r s : R) (k : Nat) : mp_C cf r * mp_m cf s k = mp_m cf (r * s) k := by
  rw [mp_C, mp_m_mulm H, Nat.zero_add]
theorem mp_m_0 [Lean.Grind.CommRing R] [Lean.Grind.CommRing A] {cf : A → Nat → R} (H : mp_P cf) (k : Nat) : mp_m cf 0 k = 0 := mp_ext H (fun n => by rw [mp_m_cf H, mp_zero H]; split <;> rfl)
/-- the size: 1 more than the degree, 0 of 0 -/
noncomputable def mp_sz [Lean.Grind.CommRing R] (cf : A → Nat → R) (a : A) : Nat := @Classical.epsilon Nat ⟨0⟩ (fun N => (∀ n, N ≤ n → cf a n = 0) ∧ ∀ M, (∀ n, M ≤ n → cf a n = 0) → N ≤ M)
theorem mp_least (P : Nat → Prop) : ∀ N, P N → ∃ k, P k ∧ ∀ j, P j → k ≤ j := by
  intro N
  induction N using Nat.strongRecOn with
  | ind N ih =>
    intro h
    by_cases hx : ∃ m, m < N ∧ P m
    · obtain ⟨m, h1, h2⟩ := hx
      exact ih m h1 h2
    · exact ⟨N, h, fun j hj => Nat.le_of_not_lt (fun q => hx ⟨j, q, hj⟩)⟩
theorem mp_sz_spec [Lean.Grind.CommRing R] [Lean.Grind.CommRing A] {cf : A → Nat → R} (H : mp_P cf) (a : A) : (∀ n, mp_sz cf a ≤ n → cf a n = 0) ∧ ∀ M, (∀ n, M ≤ n → cf a n = 0) → mp_sz cf a ≤ M := by
  obtain ⟨N, hN⟩ := H.2.2.2.1 a
  obtain ⟨k, h1, h2⟩ := mp_least (fun N => ∀ n, N ≤ n → cf a n = 0) N hN
  exact @Classical.epsilon_spec Nat (fun N => (∀ n, N ≤ n → cf a n = 0) ∧ ∀ M, (∀ n, M ≤ n → cf a n = 0) → N ≤ M) ⟨k, h1, h2⟩
theorem mp_sz_out [Lean.Grind.CommRing R] [Lean.Grind.CommRing A] {cf : A → Nat → R} (H : mp_P cf) {a : A} {n : Nat} (h : mp_sz cf a ≤ n) : cf a n = 0 := (mp_sz_spec H a).1 n h
theorem mp_sz_le [Lean.Grind.CommRing R] [Lean.Grind.CommRing A] {cf : A → Nat → R} (H : mp_P cf) {a : A} {M : Nat} (h : ∀ n, M ≤ n → cf a n = 0) : mp_sz cf a ≤ M := (mp_sz_spec H a).2 M h
theorem mp_sz_lt [Lean.Grind.CommRing R] [Lean.Grind.CommRing A] {cf : A → Nat → R} (H : mp_P cf) {a : A} {n : Nat} (h : cf a n ≠ 0) : n < mp_sz cf a := by
  rcases Nat.lt_or_ge n (mp_sz cf a) with q | q
  · exact q
  · exact absurd (mp_sz_out H q) h
theorem mp_sz_top [Lean.Grind.CommRing R] [Lean.Grind.CommRing A] {cf : A → Nat → R} (H : mp_P cf) {a : A} {n : Nat} (h : mp_sz cf a = n + 1) : cf a n ≠ 0 := by
  intro hz
  have := mp_sz_le H (a := a) (M := n) (fun j hj => by
    by_cases e : j = n
    · rw [e]; exact hz
    · exact mp_sz_out H (by omega))
  omega
theorem mp_sz_eq [Lean.Grind.CommRing R] [Lean.Grind.CommRing A] {cf : A → Nat → R} (H : mp_P cf) {a : A} {n : Nat} (h : ∀ j, n < j → cf a j = 0) (h2 : cf a n ≠ 0) : mp_sz cf a = n + 1 := by
  have h3 := mp_sz_lt H h2
  have h4 := mp_sz_le H (a := a) (M := n + 1) (fun j hj => h j (by omega))
  omega
theorem mp_sz_0 [Lean.Grind.CommRing R] [Lean.Grind.CommRing A] {cf : A → Nat → R} (H : mp_P cf) {a : A} : mp_sz cf a = 0 ↔ a = 0 := by
  constructor
  · intro h
    exact mp_ext H (fun n => by rw [mp_zero H]; exact mp_sz_out H (by omega))
  · intro h
    have := mp_sz_le H (a := a) (M := 0) (fun n _ => by rw [h, mp_zero H])
    omega
theorem mp_sz_pos [Lean.Grind.CommRing R] [Lean.Grind.CommRing A] {cf : A → Nat → R} (H : mp_P cf) {a : A} (h : a ≠ 0) : 0 < mp_sz cf a := by
  rcases Nat.eq_zero_or_pos (mp_sz cf a) with q | q
  · exact absurd ((mp_sz_0 H).mp q) h
  · exact q
theorem mp_sz_add [Lean.Grind.CommRing R] [Lean.Grind.CommRing A] {cf : A → Nat → R} (H : mp_P cf) {a b : A} {n : Nat} (ha : mp_sz cf a ≤ n) (hb : mp_sz cf b ≤ n) : mp_sz cf (a + b) ≤ n :=
  mp_sz_le H (fun j hj => by rw [mp_add H, mp_sz_out H (by omega), mp_sz_out H (by omega)]; grind)
theorem mp_sz_sub [Lean.Grind.CommRing R] [Lean.Grind.CommRing A] {cf : A → Nat → R} (H : mp_P cf) {a b : A} {n : Nat} (ha : mp_sz cf a ≤ n) (hb : mp_sz cf b ≤ n) : mp_sz cf (a - b) ≤ n :=
  mp_sz_le H (fun j hj => by rw [mp_sub H, mp_sz_out H (by omega), mp_sz_out H (by omega)]; grind)
theorem mp_sz_neg [Lean.Grind.CommRing R] [Lean.Grind.CommRing A] {cf : A → Nat → R} (H : mp_P cf) {a : A} {n : Nat} (ha : mp_sz cf a ≤ n) : mp_sz cf (-a) ≤ n :=
  mp_sz_le H (fun j hj => by rw [mp_neg H, mp_sz_out H (by omega)]; grind)
theorem mp_sz_mul_le [Lean.Grind.CommRing R] [Lean.Grind.CommRing A] {cf : A → Nat → R} (H : mp_P cf) {a b : A} {m n : Nat} (ha : mp_sz cf a ≤ m + 1) (hb : mp_sz cf b ≤ n + 1) : mp_sz cf (a * b) ≤ m + n + 1 :=
  mp_sz_le H (fun j hj => by
    rw [mp_mul H]
    exact mp_S_zero (fun i hi => by
      by_cases h : i ≤ m
      · rw [mp_sz_out H (a := b) (by omega)]; grind
      · rw [mp_sz_out H (a := a) (by omega)]; grind))
theorem mp_sz_C [Lean.Grind.CommRing R] [Lean.Grind.CommRing A] {cf : A → Nat → R} (H : mp_P cf) (r : R) : mp_sz cf (mp_C cf r) ≤ 1 := mp_sz_le H (fun n hn => by rw [mp_C_cf H, if_neg (by omega)])
theorem mp_sz_m [Lean.Grind.CommRing R] [Lean.Grind.CommRing A] {cf : A → Nat → R} (H : mp_P cf) (r : R) (k : Nat) : mp_sz cf (mp_m cf r k) ≤ k + 1 := mp_sz_le H (fun n hn => by rw [mp_m_cf H, if_neg (by omega)])
theorem mp_sz_1 [Lean.Grind.CommRing R] [Lean.Grind.CommRing A] {cf : A → Nat → R} (H : mp_P cf) {a : A} (h : mp_sz cf a ≤ 1) : a = mp_C cf (cf a 0) := mp_ext H (fun n => by
  rw [mp_C_cf H]
  split
  · next e => rw [e]
  · exact mp_sz_out H (by omega))
/-- the number at the head -/
noncomputable def mp_lc [Lean.Grind.CommRing R] (cf : A → Nat → R) (a : A) : R := cf a (mp_sz cf a - 1)
theorem mp_lc_ne [Lean.Grind.CommRing R] [Lean.Grind.CommRing A] {cf : A → Nat → R} (H : mp_P cf) {a : A} (h : a ≠ 0) : mp_lc cf a ≠ 0 := by
  have := mp_sz_pos H h
  exact mp_sz_top H (by omega)
end
end
section
/-! no divisors of zero, division, common divisors, primes, Gauss -/
def mp_NZ (R : Type) [Lean.Grind.CommRing R] : Prop := (∀ x y : R, x * y = 0 → x = 0 ∨ y = 0) ∧ (1 : R) ≠ 0
def mp_D {A : Type} [Lean.Grind.CommRing A] (a b : A) : Prop := ∃ c, b = a * c
def mp_U {A : Type} [Lean.Grind.CommRing A] (a : A) : Prop := ∃ c, a * c = 1
def mp_Fd (R : Type) [Lean.Grind.CommRing R] : Prop := (∀ x : R, x ≠ 0 → ∃ y, x * y = 1) ∧ (1 : R) ≠ 0
theorem mp_Fd_nz {R : Type} [Lean.Grind.CommRing R] (h : mp_Fd R) : mp_NZ R := by
  refine ⟨fun x y hxy => ?_, h.2⟩
  by_cases hx : x = 0
  · exact Or.inl hx
  · obtain ⟨z, hz⟩ := h.1 x hx
    right
    grind
theorem mp_FP : mp_Fd FP := ⟨fun x hx => ⟨mf_inv x, mf_mul_inv hx⟩, mf_one_ne⟩
theorem mp_nz_mul {R : Type} [Lean.Grind.CommRing R] (h : mp_NZ R) {x y : R} (hx : x ≠ 0) (hy : y ≠ 0) : x * y ≠ 0 := fun e => (h.1 x y e).elim hx hy
theorem mp_cancel {R : Type} [Lean.Grind.CommRing R] (h : mp_NZ R) {x y z : R} (hx : x ≠ 0) (e : x * y = x * z) : y = z := by
  have h1 : x * (y - z) = 0 := by grind
  rcases h.1 _ _ h1 with h2 | h2
  · exact absurd h2 hx
  · grind
theorem mp_D_rf {A : Type} [Lean.Grind.CommRing A] (a : A) : mp_D a a := ⟨1, by grind⟩
theorem mp_D_tr {A : Type} [Lean.Grind.CommRing A] {a b c : A} (h : mp_D a b) (h2 : mp_D b c) : mp_D a c := by
  obtain ⟨x, rfl⟩ := h
  obtain ⟨y, rfl⟩ := h2
  exact ⟨x * y, by grind⟩
theorem mp_D_0 {A : Type} [Lean.Grind.CommRing A] (a : A) : mp_D a 0 := ⟨0, by grind⟩
theorem mp_D_add {A : Type} [Lean.Grind.CommRing A] {a b c : A} (h : mp_D a b) (h2 : mp_D a c) : mp_D a (b + c) := by
  obtain ⟨x, rfl⟩ := h
  obtain ⟨y, rfl⟩ := h2
  exact ⟨x + y, by grind⟩
theorem mp_D_sub {A : Type} [Lean.Grind.CommRing A] {a b c : A} (h : mp_D a b) (h2 : mp_D a c) : mp_D a (b - c) := by
  obtain ⟨x, rfl⟩ := h
  obtain ⟨y, rfl⟩ := h2
  exact ⟨x - y, by grind⟩
theorem mp_D_neg {A : Type} [Lean.Grind.CommRing A] {a b : A} (h : mp_D a b) : mp_D a (-b) := by
  obtain ⟨x, rfl⟩ := h
  exact ⟨-x, by grind⟩
theorem mp_D_mul {A : Type} [Lean.Grind.CommRing A] {a b : A} (h : mp_D a b) (c : A) : mp_D a (b * c) := by
  obtain ⟨x, rfl⟩ := h
  exact ⟨x * c, by grind⟩
theorem mp_D_mul' {A : Type} [Lean.Grind.CommRing A] {a b : A} (h : mp_D a b) (c : A) : mp_D a (c * b) := by
  obtain ⟨x, rfl⟩ := h
  exact ⟨x * c, by grind⟩
theorem mp_D_S {A : Type} [Lean.Grind.CommRing A] {a : A} {f : Nat → A} : ∀ {n : Nat}, (∀ i, i < n → mp_D a (f i)) → mp_D a (mp_S n f)
  | 0, _ => mp_D_0 a
  | n + 1, h => mp_D_add (mp_D_S (fun i hi => h i (by omega))) (h n (by omega))
theorem mp_D_S_one {A : Type} [Lean.Grind.CommRing A] {a : A} {f : Nat → A} {k : Nat} : ∀ {n : Nat}, k < n → mp_D a (mp_S n f) → (∀ i, i < n → i ≠ k → mp_D a (f i)) → mp_D a (f k)
  | 0, h, _, _ => absurd h (Nat.not_lt_zero _)
  | n + 1, h, h1, h2 => by
    rw [mp_S_s] at h1
    by_cases hk : k = n
    · subst hk
      have := mp_D_sub h1 (mp_D_S (n := k) (fun i hi => h2 i (by omega) (by omega)))
      rw [show mp_S k f + f k - mp_S k f = f k by grind] at this
      exact this
    · have := mp_D_sub h1 (h2 n (by omega) (fun e => hk e.symm))
      rw [show mp_S n f + f n - f n = mp_S n f by grind] at this
      exact mp_D_S_one (k := k) (by omega) this (fun i hi => h2 i (by omega))
theorem mp_U_D {A : Type} [Lean.Grind.CommRing A] {a b : A} (h : mp_U a) : mp_D a b := by
  obtain ⟨c, hc⟩ := h
  exact ⟨c * b, by grind⟩
theorem mp_U_of_D {A : Type} [Lean.Grind.CommRing A] {a b : A} (h : mp_D a b) (hb : mp_U b) : mp_U a := by
  obtain ⟨c, rfl⟩ := h
  obtain ⟨d, hd⟩ := hb
  exact ⟨c * d, by grind⟩
theorem mp_U_mul {A : Type} [Lean.Grind.CommRing A] {a b : A} (ha : mp_U a) (hb : mp_U b) : mp_U (a * b) := by
  obtain ⟨c, hc⟩ := ha
  obtain ⟨d, hd⟩ := hb
  exact ⟨c * d, by grind⟩
theorem mp_U_1 {A : Type} [Lean.Grind.CommRing A] : mp_U (1 : A) := ⟨1, by grind⟩
section
variable {R A : Type}
theorem mp_lc_mul [Lean.Grind.CommRing R] [Lean.Grind.CommRing A] {cf : A → Nat → R} (H : mp_P cf) (hR : mp_NZ R) {a b : A} (ha : a ≠ 0) (hb : b ≠ 0) : mp_sz cf (a * b) + 1 = mp_sz cf a + mp_sz cf b ∧ mp_lc cf (a * b) = mp_lc cf a * mp_lc cf b := by
  obtain ⟨m, hm⟩ : ∃ m, mp_sz cf a = m + 1 := ⟨mp_sz cf a - 1, by have := mp_sz_pos H ha; omega⟩
  obtain ⟨n, hn⟩ : ∃ n, mp_sz cf b = n + 1 := ⟨mp_sz cf b - 1, by have := mp_sz_pos H hb; omega⟩
  have hc : cf (a * b) (m + n) = cf a m * cf b n := by
    rw [mp_mul H, mp_S_one (k := m) (by omega) (fun i hi hk => ?_), show m + n - m = n by omega]
    by_cases h : i < m
    · rw [mp_sz_out H (a := b) (by omega)]; grind
    · rw [mp_sz_out H (a := a) (by omega)]; grind
  have hne : cf (a * b) (m + n) ≠ 0 := by
    rw [hc]
    exact mp_nz_mul hR (mp_sz_top H hm) (mp_sz_top H hn)
  have hs : mp_sz cf (a * b) = m + n + 1 := by
    have h1 := mp_sz_mul_le H (a := a) (b := b) (m := m) (n := n) (by omega) (by omega)
    have h2 := mp_sz_lt H hne
    omega
  refine ⟨by omega, ?_⟩
  rw [mp_lc, mp_lc, mp_lc, hs, hm, hn]
  exact hc
theorem mp_sz_mul [Lean.Grind.CommRing R] [Lean.Grind.CommRing A] {cf : A → Nat → R} (H : mp_P cf) (hR : mp_NZ R) {a b : A} (ha : a ≠ 0) (hb : b ≠ 0) : mp_sz cf (a * b) + 1 = mp_sz cf a + mp_sz cf b := (mp_lc_mul H hR ha hb).1
theorem mp_dom [Lean.Grind.CommRing R] [Lean.Grind.CommRing A] {cf : A → Nat → R} (H : mp_P cf) (hR : mp_NZ R) : mp_NZ A := by
  refine ⟨fun x y h => ?_, fun h => ?_⟩
  · by_cases hx : x = 0
    · exact Or.inl hx
    · by_cases hy : y = 0
      · exact Or.inr hy
      · have h1 := mp_sz_mul H hR hx hy
        rw [h, (mp_sz_0 H).mpr rfl] at h1
        have := mp_sz_pos H hx
        have := mp_sz_pos H hy
        omega
  · have h1 := congrArg (fun a => cf a 0) h
    simp only [mp_one H, mp_zero H, if_true] at h1
    exact hR.2 h1
theorem mp_sz_CE [Lean.Grind.CommRing R] [Lean.Grind.CommRing A] {cf : A → Nat → R} (H : mp_P cf) {r : R} (h : r ≠ 0) : mp_sz cf (mp_C cf r) = 1 := mp_sz_eq H (n := 0) (fun j hj => by rw [mp_C_cf H, if_neg (by omega)]) (by rw [mp_C_cf H, if_pos rfl]; exact h)
theorem mp_C_ne [Lean.Grind.CommRing R] [Lean.Grind.CommRing A] {cf : A → Nat → R} (H : mp_P cf) {r : R} (h : r ≠ 0) : mp_C cf r ≠ 0 := fun e => h (mp_C_inj H (e.trans (mp_C_0 H).symm))
theorem mp_sz_Cmul [Lean.Grind.CommRing R] [Lean.Grind.CommRing A] {cf : A → Nat → R} (H : mp_P cf) (hR : mp_NZ R) {r : R} (h : r ≠ 0) (a : A) : mp_sz cf (mp_C cf r * a) = mp_sz cf a := by
  by_cases ha : a = 0
  · rw [ha, show mp_C cf r * 0 = 0 by grind]
  · have h1 := mp_sz_mul H hR (mp_C_ne H h) ha
    rw [mp_sz_CE H h] at h1
    omega
/-- division, the divided one times a power of the divisor's head -/
theorem mp_div [Lean.Grind.CommRing R] [Lean.Grind.CommRing A] {cf : A → Nat → R} (H : mp_P cf) (hR : mp_NZ R) {b : A} (hb : b ≠ 0) : ∀ (n : Nat) (a : A), mp_sz cf a ≤ n → ∃ (c : R) (q r : A), c ≠ 0 ∧ mp_C cf c * a = q * b + r ∧ mp_sz cf r < mp_sz cf b := by
  intro n
  induction n with
  | zero =>
    intro a ha
    refine ⟨1, 0, a, hR.2, by rw [mp_C_1 H]; grind, ?_⟩
    have := mp_sz_pos H hb
    omega
  | succ n ih =>
    intro a ha
    by_cases hlt : mp_sz cf a < mp_sz cf b
    · exact ⟨1, 0, a, hR.2, by rw [mp_C_1 H]; grind, hlt⟩
    · obtain ⟨m, hm⟩ : ∃ m, mp_sz cf b = m + 1 := ⟨mp_sz cf b - 1, by have := mp_sz_pos H hb; omega⟩
      obtain ⟨k, hk⟩ : ∃ k, mp_sz cf a = m + k + 1 := ⟨mp_sz cf a - 1 - m, by omega⟩
      have hl := mp_sz_top H hm
      obtain ⟨c, q, r, h1, h2, h3⟩ := ih (mp_C cf (cf b m) * a - mp_m cf (cf a (m + k)) k * b) (by
        refine mp_sz_le H (fun j hj => ?_)
        clear ih
        rw [mp_sub H, mp_C_mul H, mp_m_mul H]
        by_cases e : j = m + k
        · rw [e, if_pos (by omega), show m + k - k = m by omega]; grind
        · rw [mp_sz_out H (a := a) (by omega)]
          split
          · rw [mp_sz_out H (a := b) (n := j - k) (by omega)]; grind
          · grind)
      clear ih
      refine ⟨c * cf b m, q + mp_C cf c * mp_m cf (cf a (m + k)) k, r, mp_nz_mul hR h1 hl, ?_, h3⟩
      rw [mp_C_mulC H]
      grind
theorem mp_divF [Lean.Grind.CommRing R] [Lean.Grind.CommRing A] {cf : A → Nat → R} (H : mp_P cf) (hR : mp_Fd R) {b : A} (hb : b ≠ 0) (a : A) : ∃ (q r : A), a = q * b + r ∧ mp_sz cf r < mp_sz cf b := by
  obtain ⟨c, q, r, h1, h2, h3⟩ := mp_div H (mp_Fd_nz hR) hb _ a (Nat.le_refl _)
  obtain ⟨d, hd⟩ := hR.1 c h1
  have hcd : mp_C cf d * mp_C cf c = 1 := by rw [← mp_C_mulC H, show d * c = 1 by grind, mp_C_1 H]
  have hd0 : d ≠ 0 := fun e => hR.2 (by rw [← hd, e]; grind)
  refine ⟨mp_C cf d * q, mp_C cf d * r, by grind, ?_⟩
  rw [mp_sz_Cmul H (mp_Fd_nz hR) hd0]
  exact h3
/-- units of polynomials over a field -/
theorem mp_U_sz [Lean.Grind.CommRing R] [Lean.Grind.CommRing A] {cf : A → Nat → R} (H : mp_P cf) (hR : mp_NZ R) {a : A} (h : mp_U a) : mp_sz cf a = 1 := by
  obtain ⟨c, hc⟩ := h
  have h1 := (mp_dom H hR).2
  have ha : a ≠ 0 := fun e => h1 (by rw [← hc, e]; grind)
  have hc0 : c ≠ 0 := fun e => h1 (by rw [← hc, e]; grind)
  have h2 := mp_sz_mul H hR ha hc0
  rw [hc] at h2
  have h3 : mp_sz cf (1 : A) = 1 := by rw [← mp_C_1 H]; exact mp_sz_CE H hR.2
  have := mp_sz_pos H ha
  have := mp_sz_pos H hc0
  omega
theorem mp_U_C [Lean.Grind.CommRing R] [Lean.Grind.CommRing A] {cf : A → Nat → R} (H : mp_P cf) {r : R} (h : mp_U r) : mp_U (mp_C cf r) := by
  obtain ⟨s, hs⟩ := h
  exact ⟨mp_C cf s, by rw [← mp_C_mulC H, hs, mp_C_1 H]⟩
theorem mp_U_F [Lean.Grind.CommRing R] [Lean.Grind.CommRing A] {cf : A → Nat → R} (H : mp_P cf) (hR : mp_Fd R) {a : A} (h : mp_sz cf a = 1) : mp_U a := by
  rw [mp_sz_1 H (Nat.le_of_eq h)]
  exact mp_U_C H (hR.1 _ (mp_sz_top H (n := 0) h))
theorem mp_D_sz [Lean.Grind.CommRing R] [Lean.Grind.CommRing A] {cf : A → Nat → R} (H : mp_P cf) (hR : mp_NZ R) {a b : A} (h : mp_D a b) (hb : b ≠ 0) : mp_sz cf a ≤ mp_sz cf b := by
  obtain ⟨c, rfl⟩ := h
  have ha : a ≠ 0 := fun e => hb (by rw [e]; grind)
  have hc : c ≠ 0 := fun e => hb (by rw [e]; grind)
  have := mp_sz_mul H hR ha hc
  have := mp_sz_pos H hc
  omega
/-- a divisor of the same size -/
theorem mp_D_same [Lean.Grind.CommRing R] [Lean.Grind.CommRing A] {cf : A → Nat → R} (H : mp_P cf) (hR : mp_NZ R) {a b : A} (h : mp_D a b) (hb : b ≠ 0) (hs : mp_sz cf b ≤ mp_sz cf a) : ∃ r : R, r ≠ 0 ∧ b = mp_C cf r * a := by
  obtain ⟨c, rfl⟩ := h
  have ha : a ≠ 0 := fun e => hb (by rw [e]; grind)
  have hc : c ≠ 0 := fun e => hb (by rw [e]; grind)
  have h1 := mp_sz_mul H hR ha hc
  have h2 : mp_sz cf c = 1 := by have := mp_sz_pos H hc; omega
  have h3 := mp_sz_1 H (Nat.le_of_eq h2)
  refine ⟨cf c 0, mp_sz_top H h2, ?_⟩
  rw [← h3]
  grind
/-- the greatest common divisor over a field, as a sum of multiples -/
theorem mp_bez [Lean.Grind.CommRing R] [Lean.Grind.CommRing A] {cf : A → Nat → R} (H : mp_P cf) (hR : mp_Fd R) : ∀ (n : Nat) (a b : A), mp_sz cf b ≤ n → ∃ d u v : A, d = u * a + v * b ∧ mp_D d a ∧ mp_D d b := by
  intro n
  induction n with
  | zero =>
    intro a b hb
    have : b = 0 := (mp_sz_0 H).mp (by omega)
    exact ⟨a, 1, 0, by grind, mp_D_rf a, by rw [this]; exact mp_D_0 a⟩
  | succ n ih =>
    intro a b hb
    by_cases hz : b = 0
    · exact ⟨a, 1, 0, by grind, mp_D_rf a, by rw [hz]; exact mp_D_0 a⟩
    · obtain ⟨q, r, h1, h2⟩ := mp_divF H hR hz a
      obtain ⟨d, u, v, h3, h4, h5⟩ := ih b r (by omega)
      exact ⟨d, v, u - v * q, by grind, by rw [h1]; exact mp_D_add (mp_D_mul' h4 q) h5, h4⟩
end
/-- what can't be cut -/
def mp_Irr {A : Type} [Lean.Grind.CommRing A] (a : A) : Prop := a ≠ 0 ∧ ¬ mp_U a ∧ ∀ d, mp_D d a → mp_U d ∨ mp_D a d
def mp_Pr {A : Type} [Lean.Grind.CommRing A] (a : A) : Prop := a ≠ 0 ∧ ¬ mp_U a ∧ ∀ f g, mp_D a (f * g) → mp_D a f ∨ mp_D a g
section
variable {R A : Type}
theorem mp_prF [Lean.Grind.CommRing R] [Lean.Grind.CommRing A] {cf : A → Nat → R} (H : mp_P cf) (hR : mp_Fd R) {a : A} (h : mp_Irr a) : mp_Pr a := by
  refine ⟨h.1, h.2.1, fun f g hfg => ?_⟩
  obtain ⟨d, u, v, h1, h2, h3⟩ := mp_bez H hR _ a f (Nat.le_refl _)
  rcases h.2.2 d h2 with h4 | h4
  · right
    obtain ⟨e, he⟩ := h4
    have h5 : g = e * (u * a * g + v * (f * g)) := by grind
    rw [h5]
    exact mp_D_mul' (mp_D_add (mp_D_mul (mp_D_mul' (mp_D_rf a) u) g) (mp_D_mul' hfg v)) e
  · exact Or.inl (mp_D_tr h4 h3)
/-- every one that is not a unit has a prime divisor -/
theorem mp_irr_ex [Lean.Grind.CommRing R] [Lean.Grind.CommRing A] {cf : A → Nat → R} (H : mp_P cf) (hR : mp_Fd R) : ∀ (n : Nat) (a : A), mp_sz cf a ≤ n → 2 ≤ mp_sz cf a → ∃ d, mp_Irr d ∧ mp_D d a := by
  intro n
  induction n with
  | zero => intro a h1 h2; omega
  | succ n ih =>
    intro a h1 h2
    have ha : a ≠ 0 := fun e => by rw [(mp_sz_0 H).mpr e] at h2; omega
    have hu : ¬ mp_U a := fun e => by have := mp_U_sz H (mp_Fd_nz hR) e; omega
    by_cases hi : ∀ d, mp_D d a → mp_U d ∨ mp_D a d
    · exact ⟨a, ⟨ha, hu, hi⟩, mp_D_rf a⟩
    · obtain ⟨d, hd⟩ := Classical.not_forall.mp hi
      obtain ⟨hd1, hd2⟩ := Classical.not_imp.mp hd
      have hd3 : ¬ mp_U d := fun q => hd2 (Or.inl q)
      have hd4 : ¬ mp_D a d := fun q => hd2 (Or.inr q)
      have hs := mp_D_sz H (mp_Fd_nz hR) hd1 ha
      have hs2 : mp_sz cf d < mp_sz cf a := by
        rcases Nat.lt_or_ge (mp_sz cf d) (mp_sz cf a) with q | q
        · exact q
        · obtain ⟨r, hr, he⟩ := mp_D_same H (mp_Fd_nz hR) hd1 ha q
          obtain ⟨y, hy⟩ := hR.1 r hr
          exact absurd ⟨mp_C cf y, by rw [he, show mp_C cf r * d * mp_C cf y = mp_C cf r * mp_C cf y * d by grind, ← mp_C_mulC H, hy, mp_C_1 H]; grind⟩ hd4
      have hd0 : d ≠ 0 := fun e => by obtain ⟨c, hc⟩ := hd1; exact ha (by rw [hc, e]; grind)
      have hs3 : 2 ≤ mp_sz cf d := by
        rcases Nat.lt_or_ge (mp_sz cf d) 2 with q | q
        · have := mp_sz_pos H hd0
          exact absurd (mp_U_F H hR (by omega)) hd3
        · exact q
      obtain ⟨p, hp1, hp2⟩ := ih d (by omega) hs3
      exact ⟨p, hp1, mp_D_tr hp2 hd1⟩
/-- a constant divides when it divides each coefficient -/
theorem mp_C_D [Lean.Grind.CommRing R] [Lean.Grind.CommRing A] {cf : A → Nat → R} (H : mp_P cf) {c : R} {a : A} : mp_D (mp_C cf c) a ↔ ∀ n, mp_D c (cf a n) := by
  constructor
  · rintro ⟨b, rfl⟩ n
    exact ⟨cf b n, mp_C_mul H c b n⟩
  · intro h
    obtain ⟨N, hN⟩ := H.2.2.2.1 a
    have h2 : ∀ n, ∃ d, cf a n = c * d ∧ (N ≤ n → d = 0) := by
      intro n
      by_cases hn : N ≤ n
      · exact ⟨0, by rw [hN n hn]; grind, fun _ => rfl⟩
      · obtain ⟨d, hd⟩ := h n
        exact ⟨d, hd, fun q => absurd q hn⟩
    let f : Nat → R := fun n => Classical.choose (h2 n)
    have hf : ∀ n, cf a n = c * f n ∧ (N ≤ n → f n = 0) := fun n => Classical.choose_spec (h2 n)
    refine ⟨mp_mk cf f, mp_ext H (fun n => ?_)⟩
    rw [mp_C_mul H, mp_mk_cf H N (fun n hn => (hf n).2 hn)]
    exact (hf n).1
/-- Gauss: a prime number stays a prime -/
theorem mp_gauss [Lean.Grind.CommRing R] [Lean.Grind.CommRing A] {cf : A → Nat → R} (H : mp_P cf) {c : R} (hc : ∀ f g : R, mp_D c (f * g) → mp_D c f ∨ mp_D c g) {f g : A} (h : mp_D (mp_C cf c) (f * g)) : mp_D (mp_C cf c) f ∨ mp_D (mp_C cf c) g := by
  by_cases hf : mp_D (mp_C cf c) f
  · exact Or.inl hf
  · by_cases hg : mp_D (mp_C cf c) g
    · exact Or.inr hg
    · exfalso
      rw [mp_C_D H] at h hf hg
      obtain ⟨i0, hi0⟩ := Classical.not_forall.mp hf
      obtain ⟨j0, hj0⟩ := Classical.not_forall.mp hg
      obtain ⟨i, hi1, hi2⟩ := mp_least (fun n => ¬ mp_D c (cf f n)) i0 hi0
      obtain ⟨j, hj1, hj2⟩ := mp_least (fun n => ¬ mp_D c (cf g n)) j0 hj0
      have h1 := h (i + j)
      rw [mp_mul H] at h1
      have h2 := mp_D_S_one (k := i) (by omega) h1 (fun k hk hki => by
        by_cases hlt : k < i
        · exact mp_D_mul (Classical.byContradiction (fun q => absurd (hi2 k q) (by omega))) _
        · exact mp_D_mul' (Classical.byContradiction (fun q => absurd (hj2 _ q) (by omega))) _)
      rw [show i + j - i = j by omega] at h2
      rcases hc _ _ h2 with h3 | h3
      · exact hi1 h3
      · exact hj1 h3
end
end
section
/-! two letters: lowest terms, common divisors, primes -/
def mp_LT {A : Type} [Lean.Grind.CommRing A] (a b p q : A) : Prop := q ≠ 0 ∧ q * a = p * b ∧ ∀ p' q' : A, q' * a = p' * b → ∃ s, q' = q * s ∧ p' = p * s
def mp_G {A : Type} [Lean.Grind.CommRing A] (a b g : A) : Prop := mp_D g a ∧ mp_D g b ∧ ∀ d, mp_D d a → mp_D d b → mp_D d g
/-- only units divide both -/
def mp_Cp {A : Type} [Lean.Grind.CommRing A] (a b : A) : Prop := ∀ d, mp_D d a → mp_D d b → mp_U d
section
variable {R U A : Type}
theorem mp_strip [Lean.Grind.CommRing R] [Lean.Grind.CommRing U] [Lean.Grind.CommRing A] {cu : U → Nat → R} {ca : A → Nat → U} (hF : mp_Fd R) (HU : mp_P cu) (HA : mp_P ca) {p q : A} (hp : ∀ x : U, mp_Irr x → ¬ (mp_D (mp_C ca x) q ∧ mp_D (mp_C ca x) p)) : ∀ (n : Nat) (c : U) (s q' p' : A), mp_sz cu c ≤ n → c ≠ 0 → mp_C ca c * q' = q * s → mp_C ca c * p' = p * s → ∃ s', q' = q * s' ∧ p' = p * s' := by
  have hU := mp_dom HU (mp_Fd_nz hF)
  have hAd := mp_dom HA hU
  intro n
  induction n with
  | zero => intro c s q' p' h1 h2; exact absurd ((mp_sz_0 HU).mp (by omega)) h2
  | succ n ih =>
    intro c s q' p' h1 h2 h3 h4
    by_cases hu : mp_sz cu c = 1
    · obtain ⟨d, hd⟩ := mp_U_F HU hF hu
      have hcd : mp_C ca d * mp_C ca c = 1 := by rw [← mp_C_mulC HA, show d * c = 1 by grind, mp_C_1 HA]
      exact ⟨mp_C ca d * s, by grind, by grind⟩
    · have := mp_sz_pos HU h2
      obtain ⟨x, hx1, e, he⟩ := mp_irr_ex HU hF _ c (Nat.le_refl _) (by omega)
      have hx := mp_prF HU hF hx1
      have hce : mp_C ca c = mp_C ca x * mp_C ca e := by rw [he, mp_C_mulC HA]
      have hs : mp_D (mp_C ca x) s := by
        have g1 : mp_D (mp_C ca x) (q * s) := by rw [← h3, hce]; exact ⟨mp_C ca e * q', by grind⟩
        have g2 : mp_D (mp_C ca x) (p * s) := by rw [← h4, hce]; exact ⟨mp_C ca e * p', by grind⟩
        rcases mp_gauss HA hx.2.2 g1 with k1 | k1
        · rcases mp_gauss HA hx.2.2 g2 with k2 | k2
          · exact absurd ⟨k1, k2⟩ (hp x hx1)
          · exact k2
        · exact k1
      obtain ⟨s1, hs1⟩ := hs
      have he0 : e ≠ 0 := fun z => h2 (by rw [he, z]; grind)
      have hx0 : mp_C ca x ≠ 0 := mp_C_ne HA hx1.1
      have hsz := mp_sz_mul HU (mp_Fd_nz hF) hx1.1 he0
      rw [← he] at hsz
      have hx2 : 2 ≤ mp_sz cu x := by
        rcases Nat.lt_or_ge (mp_sz cu x) 2 with z | z
        · have := mp_sz_pos HU hx1.1
          exact absurd (mp_U_F HU hF (by omega)) hx1.2.1
        · exact z
      refine ih e s1 q' p' (by omega) he0 (mp_cancel hAd hx0 ?_) (mp_cancel hAd hx0 ?_)
      · clear ih; grind
      · clear ih; grind
theorem mp_lt_ex [Lean.Grind.CommRing R] [Lean.Grind.CommRing U] [Lean.Grind.CommRing A] {cu : U → Nat → R} {ca : A → Nat → U} (hF : mp_Fd R) (HU : mp_P cu) (HA : mp_P ca) (a : A) {b : A} (hb : b ≠ 0) : ∃ p q, mp_LT a b p q := by
  have hU := mp_dom HU (mp_Fd_nz hF)
  have hAd := mp_dom HA hU
  obtain ⟨n, ⟨q1, p1, hq1, hn1, he1⟩, hmin⟩ := mp_least (fun n => ∃ q p : A, q ≠ 0 ∧ mp_sz ca q = n ∧ q * a = p * b) _ ⟨b, a, hb, rfl, by grind⟩
  obtain ⟨k, ⟨q, p, hq, hn, he, hk⟩, hmin2⟩ := mp_least (fun k => ∃ q p : A, q ≠ 0 ∧ mp_sz ca q = n ∧ q * a = p * b ∧ mp_sz cu (mp_lc ca q) = k) _ ⟨q1, p1, hq1, hn1, he1, rfl⟩
  have prim : ∀ x : U, mp_Irr x → ¬ (mp_D (mp_C ca x) q ∧ mp_D (mp_C ca x) p) := by
    rintro x hx ⟨⟨q2, hq2⟩, ⟨p2, hp2⟩⟩
    have hx0 : mp_C ca x ≠ 0 := mp_C_ne HA hx.1
    have hq0 : q2 ≠ 0 := fun z => hq (by rw [hq2, z]; grind)
    have e2 : q2 * a = p2 * b := mp_cancel hAd hx0 (by grind)
    have hs := mp_sz_Cmul HA hU hx.1 q2
    rw [← hq2] at hs
    have hl := (mp_lc_mul HA hU hx0 hq0).2
    rw [← hq2] at hl
    have hlx : mp_lc ca (mp_C ca x) = x := by rw [mp_lc, mp_sz_CE HA hx.1, mp_C_cf HA]; rfl
    rw [hlx] at hl
    have hl2 := mp_sz_mul HU (mp_Fd_nz hF) hx.1 (mp_lc_ne HA hq0)
    rw [← hl, hk] at hl2
    have hx2 : 2 ≤ mp_sz cu x := by
      rcases Nat.lt_or_ge (mp_sz cu x) 2 with z | z
      · have := mp_sz_pos HU hx.1
        exact absurd (mp_U_F HU hF (by omega)) hx.2.1
      · exact z
    have := hmin2 _ ⟨q2, p2, hq0, by omega, e2, rfl⟩
    omega
  refine ⟨p, q, hq, he, fun p' q' h => ?_⟩
  obtain ⟨c, s, r, h1, h2, h3⟩ := mp_div HA hU hq _ q' (Nat.le_refl _)
  have h4 : r * a = (mp_C ca c * p' - s * p) * b := by grind
  have h5 : r = 0 := by
    by_cases hr : r = 0
    · exact hr
    · have := hmin _ ⟨r, _, hr, rfl, h4⟩
      omega
  rw [h5] at h4 h2
  have h6 : mp_C ca c * p' - s * p = 0 := by
    rcases hAd.1 (mp_C ca c * p' - s * p) b (by grind) with z | z
    · exact z
    · exact absurd z hb
  exact mp_strip hF HU HA prim _ c s q' p' (Nat.le_refl _) h1 (by grind) (by grind)
/-- what was divided out -/
theorem mp_lt_g [Lean.Grind.CommRing A] (hAd : mp_NZ A) {a b p q : A} (hb : b ≠ 0) (h : mp_LT a b p q) : ∃ g, g ≠ 0 ∧ a = p * g ∧ b = q * g ∧ mp_G a b g := by
  obtain ⟨hq, he, hg⟩ := h
  obtain ⟨g, h1, h2⟩ := hg a b (by grind)
  refine ⟨g, fun z => hb (by rw [h1, z]; grind), h2, h1, ⟨p, by grind⟩, ⟨q, by grind⟩, ?_⟩
  rintro d ⟨x, hx⟩ ⟨y, hy⟩
  have hd : d ≠ 0 := fun z => hb (by rw [hy, z]; grind)
  obtain ⟨s, h3, h4⟩ := hg x y (by grind)
  have hq0 : q * g = q * (d * s) := by rw [← h1, hy, h3]; grind
  exact ⟨s, mp_cancel hAd hq hq0⟩
theorem mp_g_ex [Lean.Grind.CommRing R] [Lean.Grind.CommRing U] [Lean.Grind.CommRing A] {cu : U → Nat → R} {ca : A → Nat → U} (hF : mp_Fd R) (HU : mp_P cu) (HA : mp_P ca) (a b : A) : ∃ g, mp_G a b g := by
  by_cases hb : b = 0
  · exact ⟨a, mp_D_rf a, by rw [hb]; exact mp_D_0 a, fun d h _ => h⟩
  · obtain ⟨p, q, h⟩ := mp_lt_ex hF HU HA a hb
    obtain ⟨g, -, -, -, h2⟩ := mp_lt_g (mp_dom HA (mp_dom HU (mp_Fd_nz hF))) hb h
    exact ⟨g, h2⟩
/-- where only units divide both, they are in lowest terms -/
theorem mp_cp_lt [Lean.Grind.CommRing R] [Lean.Grind.CommRing U] [Lean.Grind.CommRing A] {cu : U → Nat → R} {ca : A → Nat → U} (hF : mp_Fd R) (HU : mp_P cu) (HA : mp_P ca) {p q : A} (hq : q ≠ 0) (h : mp_Cp p q) : mp_LT p q p q := by
  obtain ⟨p0, q0, hl⟩ := mp_lt_ex hF HU HA p hq
  obtain ⟨g, hg0, h1, h2, -⟩ := mp_lt_g (mp_dom HA (mp_dom HU (mp_Fd_nz hF))) hq hl
  obtain ⟨u, hu⟩ := h g ⟨p0, by grind⟩ ⟨q0, by grind⟩
  refine ⟨hq, by grind, fun p' q' e => ?_⟩
  obtain ⟨s, h3, h4⟩ := hl.2.2 p' q' e
  exact ⟨u * s, by grind, by grind⟩
theorem mp_lt_cp [Lean.Grind.CommRing A] (hAd : mp_NZ A) {a b p q : A} (hb : b ≠ 0) (h : mp_LT a b p q) : mp_Cp p q := by
  obtain ⟨g, hg0, h1, h2, hG⟩ := mp_lt_g hAd hb h
  rintro d ⟨x, hx⟩ ⟨y, hy⟩
  obtain ⟨z, hz⟩ := hG.2.2 (d * g) ⟨x, by grind⟩ ⟨y, by grind⟩
  exact ⟨z, mp_cancel hAd hg0 (by grind)⟩
theorem mp_cp_sym [Lean.Grind.CommRing A] {p q : A} (h : mp_Cp p q) : mp_Cp q p := fun d h1 h2 => h d h2 h1
theorem mp_euclid [Lean.Grind.CommRing R] [Lean.Grind.CommRing U] [Lean.Grind.CommRing A] {cu : U → Nat → R} {ca : A → Nat → U} (hF : mp_Fd R) (HU : mp_P cu) (HA : mp_P ca) {p q r : A} (hq : q ≠ 0) (h : mp_Cp p q) (h2 : mp_D q (p * r)) : mp_D q r := by
  obtain ⟨w, hw⟩ := h2
  obtain ⟨s, h3, -⟩ := (mp_cp_lt hF HU HA hq h).2.2 w r (by grind)
  exact ⟨s, h3⟩
theorem mp_prA [Lean.Grind.CommRing R] [Lean.Grind.CommRing U] [Lean.Grind.CommRing A] {cu : U → Nat → R} {ca : A → Nat → U} (hF : mp_Fd R) (HU : mp_P cu) (HA : mp_P ca) {d : A} (h : mp_Irr d) : mp_Pr d := by
  refine ⟨h.1, h.2.1, fun f g hfg => ?_⟩
  by_cases hf : mp_D d f
  · exact Or.inl hf
  · refine Or.inr (mp_euclid hF HU HA h.1 (p := f) (fun e h1 h2 => ?_) hfg)
    rcases h.2.2 e h2 with z | z
    · exact z
    · exact absurd (mp_D_tr z h1) hf
/-- the size in both letters -/
noncomputable def mp_mu [Lean.Grind.CommRing R] [Lean.Grind.CommRing U] (cu : U → Nat → R) (ca : A → Nat → U) (a : A) : Nat := mp_sz ca a + mp_sz cu (mp_lc ca a)
theorem mp_mu_mul [Lean.Grind.CommRing R] [Lean.Grind.CommRing U] [Lean.Grind.CommRing A] {cu : U → Nat → R} {ca : A → Nat → U} (hF : mp_Fd R) (HU : mp_P cu) (HA : mp_P ca) {a b : A} (ha : a ≠ 0) (hb : b ≠ 0) : mp_mu cu ca (a * b) + 2 = mp_mu cu ca a + mp_mu cu ca b := by
  have hU := mp_dom HU (mp_Fd_nz hF)
  obtain ⟨h1, h2⟩ := mp_lc_mul HA hU ha hb
  have h3 := mp_sz_mul HU (mp_Fd_nz hF) (mp_lc_ne HA ha) (mp_lc_ne HA hb)
  rw [← h2] at h3
  simp only [mp_mu]
  omega
theorem mp_mu_2 [Lean.Grind.CommRing R] [Lean.Grind.CommRing U] [Lean.Grind.CommRing A] {cu : U → Nat → R} {ca : A → Nat → U} (HU : mp_P cu) (HA : mp_P ca) {a : A} (ha : a ≠ 0) : 2 ≤ mp_mu cu ca a := by
  have h1 := mp_sz_pos HA ha
  have h2 := mp_sz_pos HU (mp_lc_ne HA ha)
  simp only [mp_mu]
  omega
theorem mp_mu_U [Lean.Grind.CommRing R] [Lean.Grind.CommRing U] [Lean.Grind.CommRing A] {cu : U → Nat → R} {ca : A → Nat → U} (hF : mp_Fd R) (HU : mp_P cu) (HA : mp_P ca) {a : A} (ha : a ≠ 0) (h : mp_mu cu ca a = 2) : ∃ r : R, r ≠ 0 ∧ a = mp_C ca (mp_C cu r) := by
  have h1 := mp_sz_pos HA ha
  have h2 := mp_sz_pos HU (mp_lc_ne HA ha)
  simp only [mp_mu] at h
  have h3 : mp_sz ca a = 1 := by omega
  have h4 : mp_sz cu (mp_lc ca a) = 1 := by omega
  have h5 : mp_lc ca a = ca a 0 := by rw [mp_lc, h3]
  rw [h5] at h4
  refine ⟨cu (ca a 0) 0, mp_sz_top HU h4, ?_⟩
  rw [← mp_sz_1 HU (Nat.le_of_eq h4)]
  exact mp_sz_1 HA (Nat.le_of_eq h3)
theorem mp_CC_U [Lean.Grind.CommRing R] [Lean.Grind.CommRing U] [Lean.Grind.CommRing A] {cu : U → Nat → R} {ca : A → Nat → U} (hF : mp_Fd R) (HU : mp_P cu) (HA : mp_P ca) {r : R} (h : r ≠ 0) : mp_U (mp_C ca (mp_C cu r)) := mp_U_C HA (mp_U_C HU (hF.1 r h))
theorem mp_U_mu [Lean.Grind.CommRing R] [Lean.Grind.CommRing U] [Lean.Grind.CommRing A] {cu : U → Nat → R} {ca : A → Nat → U} (hF : mp_Fd R) (HU : mp_P cu) (HA : mp_P ca) {a : A} (h : mp_U a) : mp_mu cu ca a = 2 := by
  have hU := mp_dom HU (mp_Fd_nz hF)
  have hAd := mp_dom HA hU
  obtain ⟨c, hc⟩ := h
  have ha : a ≠ 0 := fun e => hAd.2 (by rw [← hc, e]; grind)
  have hc0 : c ≠ 0 := fun e => hAd.2 (by rw [← hc, e]; grind)
  have h1 := mp_mu_mul hF HU HA ha hc0
  rw [hc] at h1
  have h2 := mp_mu_2 HU HA ha
  have h3 := mp_mu_2 HU HA hc0
  have h4 : mp_mu cu ca (1 : A) = 2 := by
    have e1 : mp_sz ca (1 : A) = 1 := by rw [← mp_C_1 HA]; exact mp_sz_CE HA hU.2
    have e2 : mp_sz cu (1 : U) = 1 := by rw [← mp_C_1 HU]; exact mp_sz_CE HU hF.2
    rw [mp_mu, mp_lc, e1]
    rw [show ca (1 : A) (1 - 1) = 1 by rw [mp_one HA]; rfl, e2]
  omega
theorem mp_unit [Lean.Grind.CommRing R] [Lean.Grind.CommRing U] [Lean.Grind.CommRing A] {cu : U → Nat → R} {ca : A → Nat → U} (hF : mp_Fd R) (HU : mp_P cu) (HA : mp_P ca) {a : A} (h : mp_U a) : ∃ r : R, r ≠ 0 ∧ a = mp_C ca (mp_C cu r) := by
  have hAd := mp_dom HA (mp_dom HU (mp_Fd_nz hF))
  refine mp_mu_U hF HU HA (fun e => ?_) (mp_U_mu hF HU HA h)
  obtain ⟨c, hc⟩ := h
  exact hAd.2 (by rw [← hc, e]; grind)
theorem mp_irrA [Lean.Grind.CommRing R] [Lean.Grind.CommRing U] [Lean.Grind.CommRing A] {cu : U → Nat → R} {ca : A → Nat → U} (hF : mp_Fd R) (HU : mp_P cu) (HA : mp_P ca) : ∀ (n : Nat) (a : A), mp_mu cu ca a ≤ n → a ≠ 0 → ¬ mp_U a → ∃ d, mp_Irr d ∧ mp_D d a := by
  intro n
  induction n with
  | zero => intro a h1 h2; have := mp_mu_2 HU HA h2; omega
  | succ n ih =>
    intro a h1 h2 h3
    by_cases hi : ∀ d, mp_D d a → mp_U d ∨ mp_D a d
    · exact ⟨a, ⟨h2, h3, hi⟩, mp_D_rf a⟩
    · obtain ⟨d, hd⟩ := Classical.not_forall.mp hi
      obtain ⟨hd1, hd2⟩ := Classical.not_imp.mp hd
      have hd3 : ¬ mp_U d := fun q => hd2 (Or.inl q)
      have hd4 : ¬ mp_D a d := fun q => hd2 (Or.inr q)
      obtain ⟨e, he⟩ := id hd1
      have hd0 : d ≠ 0 := fun z => h2 (by rw [he, z]; grind)
      have he0 : e ≠ 0 := fun z => h2 (by rw [he, z]; grind)
      have hm := mp_mu_mul hF HU HA hd0 he0
      rw [← he] at hm
      have he3 : mp_mu cu ca e ≠ 2 := fun z => by
        obtain ⟨r, hr, hr2⟩ := mp_mu_U hF HU HA he0 z
        obtain ⟨y, hy⟩ := mp_CC_U hF HU HA hr
        rw [← hr2] at hy
        exact hd4 ⟨y, by rw [he]; clear ih; grind⟩
      have := mp_mu_2 HU HA he0
      obtain ⟨p, hp1, hp2⟩ := ih d (by omega) hd0 hd3
      exact ⟨p, hp1, mp_D_tr hp2 hd1⟩
/-- a common divisor that isn't a unit has a prime one -/
theorem mp_ncp [Lean.Grind.CommRing R] [Lean.Grind.CommRing U] [Lean.Grind.CommRing A] {cu : U → Nat → R} {ca : A → Nat → U} (hF : mp_Fd R) (HU : mp_P cu) (HA : mp_P ca) {a b : A} (hb : b ≠ 0) (h : ∀ d, mp_Pr d → mp_D d a → mp_D d b → False) : mp_Cp a b := by
  intro d h1 h2
  refine Classical.byContradiction (fun hu => ?_)
  have hd0 : d ≠ 0 := fun z => by obtain ⟨e, he⟩ := h2; exact hb (by rw [he, z]; grind)
  obtain ⟨p, hp1, hp2⟩ := mp_irrA hF HU HA _ d (Nat.le_refl _) hd0 hu
  exact h p (mp_prA hF HU HA hp1) (mp_D_tr hp2 h1) (mp_D_tr hp2 h2)
end
end
section
/-! values at a point, counting zeros, and a resultant by counting unknowns -/
section
variable {R A : Type}
noncomputable def mp_X [Lean.Grind.CommRing R] [Lean.Grind.CommRing A] (cf : A → Nat → R) (w : R) : A := mp_m cf 1 1 - mp_C cf w
theorem mp_X_cf [Lean.Grind.CommRing R] [Lean.Grind.CommRing A] {cf : A → Nat → R} (H : mp_P cf) (w : R) (n : Nat) : cf (mp_X cf w) n = if n = 1 then 1 else if n = 0 then -w else 0 := by
  rw [mp_X, mp_sub H, mp_m_cf H, mp_C_cf H]
  by_cases h1 : n = 1
  · subst h1; simp; grind
  · by_cases h0 : n = 0
    · subst h0; simp; grind
    · simp [h1, h0]; grind
theorem mp_X_sz [Lean.Grind.CommRing R] [Lean.Grind.CommRing A] {cf : A → Nat → R} (H : mp_P cf) (hR : mp_NZ R) (w : R) : mp_sz cf (mp_X cf w) = 2 := mp_sz_eq H (n := 1) (fun j hj => by rw [mp_X_cf H, if_neg (by omega), if_neg (by omega)]) (by rw [mp_X_cf H, if_pos rfl]; exact hR.2)
theorem mp_X_ne [Lean.Grind.CommRing R] [Lean.Grind.CommRing A] {cf : A → Nat → R} (H : mp_P cf) (hR : mp_NZ R) (w : R) : mp_X cf w ≠ 0 := fun e => by
  have := mp_X_sz H hR w
  rw [(mp_sz_0 H).mpr e] at this
  omega
/-- the shifted one: a = X * a1 + a(0) -/
theorem mp_unshift [Lean.Grind.CommRing R] [Lean.Grind.CommRing A] {cf : A → Nat → R} (H : mp_P cf) (a : A) : ∃ b : A, (∀ n, cf b n = cf a (n + 1)) ∧ a = mp_m cf 1 1 * b + mp_C cf (cf a 0) := by
  obtain ⟨N, hN⟩ := H.2.2.2.1 a
  obtain ⟨b, hb⟩ := H.2.2.2.2.1 (fun n => cf a (n + 1)) N (fun n hn => hN _ (by omega))
  refine ⟨b, hb, mp_ext H (fun n => ?_)⟩
  rw [mp_add H, mp_m_mul H, mp_C_cf H]
  by_cases h : n = 0
  · subst h; simp; grind
  · rw [if_pos (by omega), if_neg h, hb, show n - 1 + 1 = n by omega]; grind
theorem mp_ev_ex [Lean.Grind.CommRing R] [Lean.Grind.CommRing A] {cf : A → Nat → R} (H : mp_P cf) (w : R) : ∀ (n : Nat) (a : A), mp_sz cf a ≤ n → ∃ (r : R) (q : A), a = mp_X cf w * q + mp_C cf r := by
  intro n
  induction n with
  | zero =>
    intro a ha
    have : a = 0 := (mp_sz_0 H).mp (by omega)
    exact ⟨0, 0, by rw [this, mp_C_0 H]; grind⟩
  | succ n ih =>
    intro a ha
    obtain ⟨b, hb, he⟩ := mp_unshift H a
    obtain ⟨r, q, hq⟩ := ih b (mp_sz_le H (fun j hj => by rw [hb]; exact mp_sz_out H (by omega)))
    refine ⟨w * r + cf a 0, mp_m cf 1 1 * q + mp_C cf r, ?_⟩
    have hX : mp_m cf 1 1 = mp_X cf w + mp_C cf w := by rw [mp_X]; clear ih; grind
    rw [mp_C_add H, mp_C_mulC H]
    clear ih
    grind
noncomputable def mp_e [Lean.Grind.CommRing R] [Lean.Grind.CommRing A] (cf : A → Nat → R) (w : R) (a : A) : R := @Classical.epsilon R ⟨0⟩ (fun r => ∃ q, a = mp_X cf w * q + mp_C cf r)
theorem mp_e_q [Lean.Grind.CommRing R] [Lean.Grind.CommRing A] {cf : A → Nat → R} (H : mp_P cf) (w : R) (a : A) : ∃ q, a = mp_X cf w * q + mp_C cf (mp_e cf w a) :=
  @Classical.epsilon_spec R (fun r => ∃ q, a = mp_X cf w * q + mp_C cf r) (mp_ev_ex H w _ a (Nat.le_refl _))
theorem mp_e_of [Lean.Grind.CommRing R] [Lean.Grind.CommRing A] {cf : A → Nat → R} (H : mp_P cf) (hR : mp_NZ R) {w r : R} {a q : A} (h : a = mp_X cf w * q + mp_C cf r) : mp_e cf w a = r := by
  obtain ⟨q2, h2⟩ := mp_e_q H w a
  have h3 : mp_X cf w * (q - q2) = mp_C cf (mp_e cf w a - r) := by rw [mp_C_sub H]; grind
  by_cases hz : q - q2 = 0
  · rw [hz] at h3
    have h4 : mp_C cf (mp_e cf w a - r) = mp_C cf 0 := by rw [← h3, mp_C_0 H]; grind
    have h5 := mp_C_inj H h4
    grind
  · have h4 := mp_sz_mul H hR (mp_X_ne H hR w) hz
    have h5 := mp_sz_C H (mp_e cf w a - r)
    have h6 := mp_sz_pos H hz
    rw [h3, mp_X_sz H hR] at h4
    omega
theorem mp_e_add [Lean.Grind.CommRing R] [Lean.Grind.CommRing A] {cf : A → Nat → R} (H : mp_P cf) (hR : mp_NZ R) (w : R) (a b : A) : mp_e cf w (a + b) = mp_e cf w a + mp_e cf w b := by
  obtain ⟨q, hq⟩ := mp_e_q H w a
  obtain ⟨q2, hq2⟩ := mp_e_q H w b
  refine mp_e_of H hR (q := q + q2) ?_
  rw [mp_C_add H]
  grind
theorem mp_e_mul [Lean.Grind.CommRing R] [Lean.Grind.CommRing A] {cf : A → Nat → R} (H : mp_P cf) (hR : mp_NZ R) (w : R) (a b : A) : mp_e cf w (a * b) = mp_e cf w a * mp_e cf w b := by
  obtain ⟨q, hq⟩ := mp_e_q H w a
  obtain ⟨q2, hq2⟩ := mp_e_q H w b
  refine mp_e_of H hR (q := q * b + mp_C cf (mp_e cf w a) * q2) ?_
  rw [mp_C_mulC H]
  grind
theorem mp_e_C [Lean.Grind.CommRing R] [Lean.Grind.CommRing A] {cf : A → Nat → R} (H : mp_P cf) (hR : mp_NZ R) (w r : R) : mp_e cf w (mp_C cf r) = r := mp_e_of H hR (q := 0) (by grind)
theorem mp_e_0 [Lean.Grind.CommRing R] [Lean.Grind.CommRing A] {cf : A → Nat → R} (H : mp_P cf) (hR : mp_NZ R) (w : R) : mp_e cf w 0 = 0 := by rw [← mp_C_0 H, mp_e_C H hR]
theorem mp_e_1 [Lean.Grind.CommRing R] [Lean.Grind.CommRing A] {cf : A → Nat → R} (H : mp_P cf) (hR : mp_NZ R) (w : R) : mp_e cf w 1 = 1 := by rw [← mp_C_1 H, mp_e_C H hR]
theorem mp_e_X [Lean.Grind.CommRing R] [Lean.Grind.CommRing A] {cf : A → Nat → R} (H : mp_P cf) (hR : mp_NZ R) (w v : R) : mp_e cf w (mp_X cf v) = w - v := mp_e_of H hR (q := 1) (by rw [mp_X, mp_X, mp_C_sub H]; grind)
theorem mp_e_neg [Lean.Grind.CommRing R] [Lean.Grind.CommRing A] {cf : A → Nat → R} (H : mp_P cf) (hR : mp_NZ R) (w : R) (a : A) : mp_e cf w (-a) = - mp_e cf w a := by
  have h := mp_e_add H hR w a (-a)
  rw [show a + -a = 0 by grind, mp_e_0 H hR] at h
  grind
theorem mp_e_sub [Lean.Grind.CommRing R] [Lean.Grind.CommRing A] {cf : A → Nat → R} (H : mp_P cf) (hR : mp_NZ R) (w : R) (a b : A) : mp_e cf w (a - b) = mp_e cf w a - mp_e cf w b := by
  rw [show a - b = a + -b by grind, mp_e_add H hR, mp_e_neg H hR]
  grind
theorem mp_e_D [Lean.Grind.CommRing R] [Lean.Grind.CommRing A] {cf : A → Nat → R} (H : mp_P cf) (hR : mp_NZ R) (w : R) {a : A} (h : mp_e cf w a = 0) : mp_D (mp_X cf w) a := by
  obtain ⟨q, hq⟩ := mp_e_q H w a
  rw [h, mp_C_0 H] at hq
  exact ⟨q, by grind⟩
/-- Horner's step -/
theorem mp_e_horner [Lean.Grind.CommRing R] [Lean.Grind.CommRing A] {cf : A → Nat → R} (H : mp_P cf) (hR : mp_NZ R) (w : R) {a b : A} {k : Nat} (h : ∀ n, cf b n = cf a (n + 1)) : mp_e cf w a = mp_e cf w b * w + cf a 0 := by
  obtain ⟨b2, hb, he⟩ := mp_unshift H a
  have : b2 = b := mp_ext H (fun n => by rw [hb, h])
  subst this
  have hX : mp_m cf 1 1 = mp_X cf w + mp_C cf w := by rw [mp_X]; grind
  rw [he, mp_add H, mp_m_mul H, mp_C_cf H, mp_e_add H hR, mp_e_mul H hR, mp_e_C H hR, hX, mp_e_add H hR, mp_e_X H hR, mp_e_C H hR]
  simp
  grind
end
/-- how many below n -/
noncomputable def mp_ct (p : Nat → Prop) : Nat → Nat
  | 0 => 0
  | n + 1 => mp_ct p n + @ite Nat (p n) (Classical.propDecidable _) 1 0
theorem mp_ct_y {p : Nat → Prop} {n : Nat} (h : p n) : mp_ct p (n + 1) = mp_ct p n + 1 := by rw [mp_ct, if_pos h]
theorem mp_ct_n {p : Nat → Prop} {n : Nat} (h : ¬ p n) : mp_ct p (n + 1) = mp_ct p n := by rw [mp_ct, if_neg h]; rfl
theorem mp_ct_none {p : Nat → Prop} : ∀ {n : Nat}, (∀ i, i < n → ¬ p i) → mp_ct p n = 0
  | 0, _ => rfl
  | n + 1, h => by rw [mp_ct_n (h n (by omega)), mp_ct_none (fun i hi => h i (by omega))]
theorem mp_ct_but {p q : Nat → Prop} (k : Nat) : ∀ {n : Nat}, (∀ i, i < n → p i → q i ∨ i = k) → mp_ct p n ≤ mp_ct q n + (if k < n then 1 else 0)
  | 0, _ => by simp [mp_ct]
  | n + 1, h => by
    have ih := mp_ct_but (p := p) (q := q) k (n := n) (fun i hi => h i (by omega))
    by_cases hp : p n
    · rw [mp_ct_y hp]
      rcases h n (by omega) hp with g | g
      · rw [mp_ct_y g]
        by_cases hk : k < n
        · rw [if_pos hk] at ih; rw [if_pos (by omega)]; omega
        · rw [if_neg hk] at ih; split <;> omega
      · rw [← g] at ih ⊢
        rw [if_neg (by omega)] at ih
        rw [if_pos (by omega)]
        by_cases hq : q n
        · rw [mp_ct_y hq]; omega
        · rw [mp_ct_n hq]; omega
    · rw [mp_ct_n hp]
      have h2 : mp_ct q n ≤ mp_ct q (n + 1) := by
        by_cases hq : q n
        · rw [mp_ct_y hq]; omega
        · rw [mp_ct_n hq]; exact Nat.le_refl _
      by_cases hk : k < n
      · rw [if_pos hk] at ih; rw [if_pos (by omega)]; omega
      · rw [if_neg hk] at ih; split <;> omega
theorem mp_ct_not (p : Nat → Prop) : ∀ n, mp_ct p n + mp_ct (fun i => ¬ p i) n = n
  | 0 => rfl
  | n + 1 => by
    have := mp_ct_not p n
    by_cases h : p n
    · rw [mp_ct_y h, mp_ct_n (p := fun i => ¬ p i) (fun q => q h)]; omega
    · rw [mp_ct_n h, mp_ct_y (p := fun i => ¬ p i) h]; omega
section
variable {A : Type}
theorem mf_n_inj {i j : Nat} (hi : i < 32003) (hj : j < 32003) (h : mf_n i = mf_n j) : i = j := by
  have := congrArg Fin.val h
  simp only [mf_n, Fin.ofNat] at this
  rw [Nat.mod_eq_of_lt hi, Nat.mod_eq_of_lt hj] at this
  exact this
/-- zeros among the first n numbers -/
theorem mp_zeros [Lean.Grind.CommRing A] {cf : A → Nat → FP} (H : mp_P cf) {n : Nat} (hn : n ≤ 32003) : ∀ (k : Nat) (a : A), a ≠ 0 → mp_sz cf a ≤ k + 1 → mp_ct (fun i => mp_e cf (mf_n i) a = 0) n ≤ k := by
  have hR := mp_Fd_nz mp_FP
  intro k
  induction k with
  | zero =>
    intro a ha hs
    rw [mp_ct_none]
    · exact Nat.le_refl _
    · intro i hi h
      obtain ⟨q, hq⟩ := mp_e_D H hR _ h
      have hq0 : q ≠ 0 := fun z => ha (by rw [hq, z]; grind)
      have := mp_sz_mul H hR (mp_X_ne H hR (mf_n i)) hq0
      rw [← hq, mp_X_sz H hR] at this
      have := mp_sz_pos H hq0
      omega
  | succ k ih =>
    intro a ha hs
    by_cases hz : ∃ i, i < n ∧ mp_e cf (mf_n i) a = 0
    · obtain ⟨i, hi, h⟩ := hz
      obtain ⟨q, hq⟩ := mp_e_D H hR _ h
      have hq0 : q ≠ 0 := fun z => ha (by rw [hq, z]; grind)
      have h1 := mp_sz_mul H hR (mp_X_ne H hR (mf_n i)) hq0
      rw [← hq, mp_X_sz H hR] at h1
      have h2 := ih q hq0 (by omega)
      have h3 := mp_ct_but (p := fun i => mp_e cf (mf_n i) a = 0) (q := fun i => mp_e cf (mf_n i) q = 0) i (n := n) (fun j hj hj2 => by
        by_cases e : j = i
        · exact Or.inr e
        · left
          rw [hq, mp_e_mul H hR, mp_e_X H hR] at hj2
          rcases hR.1 _ _ hj2 with g | g
          · exact absurd (mf_n_inj (by omega) (by omega) (by grind)) e
          · exact g)
      rw [if_pos hi] at h3
      omega
    · rw [mp_ct_none (fun i hi h => hz ⟨i, hi, h⟩)]
      omega
end
/-! more unknowns than equations -/
theorem mp_S_upd {R : Type} [Lean.Grind.CommRing R] (h : Nat → R) (x : R) {k : Nat} : ∀ {n : Nat}, k < n → mp_S n (fun i => if i = k then x else h i) = mp_S n h - h k + x
  | 0, q => absurd q (Nat.not_lt_zero _)
  | n + 1, q => by
    rw [mp_S_s, mp_S_s]
    by_cases e : k = n
    · subst e
      rw [mp_S_cong (g := h) (fun i hi => by rw [if_neg (by omega)]), if_pos rfl]; grind
    · rw [mp_S_upd h x (n := n) (by omega), if_neg (by omega)]; grind
theorem mp_lin {R : Type} [Lean.Grind.CommRing R] (hR : mp_Fd R) : ∀ (M N : Nat) (f : Nat → Nat → R), M < N → ∃ c : Nat → R, (∃ k, k < N ∧ c k ≠ 0) ∧ ∀ e, e < M → mp_S N (fun k => c k * f k e) = 0 := by
  intro M
  induction M with
  | zero =>
    intro N f h
    exact ⟨fun _ => 1, ⟨0, h, hR.2⟩, fun e he => absurd he (Nat.not_lt_zero _)⟩
  | succ M ih =>
    intro N f h
    obtain ⟨n, rfl⟩ : ∃ n, N = n + 1 := ⟨N - 1, by omega⟩
    by_cases hz : ∃ k, k < n + 1 ∧ f k M ≠ 0
    · obtain ⟨k0, hk0, hne⟩ := hz
      let f2 : Nat → Nat → R := fun k => if k = k0 then f n else if k = n then f k0 else f k
      have hfn : f2 n = f k0 := by
        show (if n = k0 then f n else if n = n then f k0 else f n) = f k0
        by_cases e : n = k0
        · rw [if_pos e, e]
        · rw [if_neg e, if_pos rfl]
      obtain ⟨y, hy⟩ := hR.1 _ hne
      obtain ⟨c1, ⟨k1, hk1, hc1⟩, h1⟩ := ih n (fun k e => f2 k e - f2 k M * y * f k0 e) (by omega)
      have h1' : ∀ e, e < M + 1 → mp_S n (fun k => c1 k * (f2 k e - f2 k M * y * f k0 e)) = 0 := by
        intro e he
        by_cases hM : e = M
        · subst hM
          refine mp_S_zero (fun i _ => ?_)
          clear ih h1
          grind
        · exact h1 e (by omega)
      let c2 : Nat → R := fun k => if k = n then -mp_S n (fun k => c1 k * (f2 k M * y)) else c1 k
      have h2 : ∀ e, e < M + 1 → mp_S (n + 1) (fun k => c2 k * f2 k e) = 0 := by
        intro e he
        rw [mp_S_s, hfn]
        have e1 : mp_S n (fun k => c2 k * f2 k e) = mp_S n (fun k => c1 k * (f2 k e - f2 k M * y * f k0 e)) + mp_S n (fun k => c1 k * (f2 k M * y)) * f k0 e := by
          rw [← mp_S_mulr, ← mp_S_add]
          refine mp_S_cong (fun i hi => ?_)
          have : c2 i = c1 i := if_neg (by omega)
          rw [this]
          clear ih h1 h1'
          grind
        have e2 : c2 n = -mp_S n (fun k => c1 k * (f2 k M * y)) := if_pos rfl
        rw [e1, h1' e he, e2]
        clear ih h1 h1'
        grind
      let tau : Nat → Nat := fun k => if k = k0 then n else if k = n then k0 else k
      have hf : ∀ k, f k = f2 (tau k) := by
        intro k
        show f k = if tau k = k0 then f n else if tau k = n then f k0 else f (tau k)
        by_cases a : k = k0
        · have : tau k = n := if_pos a
          rw [this]
          by_cases b : n = k0
          · rw [if_pos b, a, b]
          · rw [if_neg b, if_pos rfl, a]
        · by_cases b : k = n
          · have : tau k = k0 := by show (if k = k0 then n else if k = n then k0 else k) = k0; rw [if_neg a, if_pos b]
            rw [this, if_pos rfl, b]
          · have : tau k = k := by show (if k = k0 then n else if k = n then k0 else k) = k; rw [if_neg a, if_neg b]
            rw [this, if_neg a, if_neg b]
      have hsw : ∀ g : Nat → R, mp_S (n + 1) (fun k => g (tau k)) = mp_S (n + 1) g := by
        intro g
        rw [mp_S_s, mp_S_s]
        by_cases e : k0 = n
        · have e1 : tau n = n := by show (if n = k0 then n else if n = n then k0 else n) = n; rw [if_pos e.symm]
          rw [e1]
          congr 1
          refine mp_S_cong (fun i hi => ?_)
          have : tau i = i := by show (if i = k0 then n else if i = n then k0 else i) = i; rw [if_neg (by omega), if_neg (by omega)]
          rw [this]
        · have e1 : tau n = k0 := by show (if n = k0 then n else if n = n then k0 else n) = k0; rw [if_neg (fun q => e q.symm), if_pos rfl]
          rw [e1, mp_S_cong (g := fun i => if i = k0 then g n else g i) (fun i hi => ?_), mp_S_upd g (g n) (by omega)]
          · clear ih h1 h1' h2; grind
          · by_cases a : i = k0
            · have : tau i = n := if_pos a
              rw [this, if_pos a]
            · have : tau i = i := by show (if i = k0 then n else if i = n then k0 else i) = i; rw [if_neg a, if_neg (by omega)]
              rw [this, if_neg a]
      refine ⟨fun k => c2 (tau k), ?_, fun e he => ?_⟩
      · have htt : tau (tau k1) = k1 := by
          by_cases a : k1 = k0
          · have : tau k1 = n := if_pos a
            rw [this]
            show (if n = k0 then n else if n = n then k0 else n) = k1
            rw [if_neg (by omega), if_pos rfl, a]
          · have : tau k1 = k1 := by show (if k1 = k0 then n else if k1 = n then k0 else k1) = k1; rw [if_neg a, if_neg (by omega)]
            rw [this, this]
        refine ⟨tau k1, ?_, ?_⟩
        · show (if k1 = k0 then n else if k1 = n then k0 else k1) < n + 1
          split
          · omega
          · split <;> omega
        · show c2 (tau (tau k1)) ≠ 0
          rw [htt]
          have : c2 k1 = c1 k1 := if_neg (by omega)
          rw [this]
          exact hc1
      · rw [← h2 e he, ← hsw (fun k => c2 k * f2 k e)]
        exact mp_S_cong (fun i _ => by rw [hf i])
    · obtain ⟨c, h1, h2⟩ := ih (n + 1) f (by omega)
      refine ⟨c, h1, fun e he => ?_⟩
      by_cases hM : e = M
      · subst hM
        refine mp_S_zero (fun i hi => ?_)
        have : f i e = 0 := Classical.byContradiction (fun q => hz ⟨i, hi, q⟩)
        rw [this]
        clear ih h2
        grind
      · exact h2 e (by omega)
end
section
/-! the other letter first; the points where a common divisor of images is the image of the common divisor -/
theorem mp_maxb : ∀ (n : Nat) (f : Nat → Nat), ∃ N, ∀ i, i < n → f i ≤ N
  | 0, _ => ⟨0, fun i h => absurd h (Nat.not_lt_zero _)⟩
  | n + 1, f => by
    obtain ⟨N, h⟩ := mp_maxb n f
    refine ⟨N + f n, fun i hi => ?_⟩
    by_cases e : i = n
    · rw [e]; omega
    · have := h i (by omega); omega
section
variable {R U A : Type}
noncomputable def mp_sw [Lean.Grind.CommRing R] [Lean.Grind.CommRing U] (cu : U → Nat → R) (ca : A → Nat → U) (a : A) (j : Nat) : U := mp_mk cu (fun i => cu (ca a i) j)
theorem mp_sw_cf [Lean.Grind.CommRing R] [Lean.Grind.CommRing U] [Lean.Grind.CommRing A] {cu : U → Nat → R} {ca : A → Nat → U} (HU : mp_P cu) (HA : mp_P ca) (a : A) (j i : Nat) : cu (mp_sw cu ca a j) i = cu (ca a i) j := by
  obtain ⟨N, hN⟩ := HA.2.2.2.1 a
  exact mp_mk_cf HU N (fun n hn => by rw [hN n hn, mp_zero HU]) i
theorem mp_xb [Lean.Grind.CommRing R] [Lean.Grind.CommRing U] [Lean.Grind.CommRing A] {cu : U → Nat → R} {ca : A → Nat → U} (HU : mp_P cu) (HA : mp_P ca) (a : A) : ∃ N, ∀ i, mp_sz cu (ca a i) ≤ N := by
  obtain ⟨M, hM⟩ := HA.2.2.2.1 a
  obtain ⟨N, hN⟩ := mp_maxb M (fun i => mp_sz cu (ca a i))
  refine ⟨N, fun i => ?_⟩
  by_cases h : i < M
  · exact hN i h
  · rw [hM i (by omega), (mp_sz_0 HU).mpr rfl]; omega
theorem mp_sw_P [Lean.Grind.CommRing R] [Lean.Grind.CommRing U] [Lean.Grind.CommRing A] {cu : U → Nat → R} {ca : A → Nat → U} (HU : mp_P cu) (HA : mp_P ca) : mp_P (mp_sw cu ca) := by
  refine ⟨fun a b h => ?_, fun a b n => ?_, fun a b n => ?_, fun a => ?_, fun g N hg => ?_, fun n => ?_⟩
  · refine mp_ext HA (fun i => mp_ext HU (fun j => ?_))
    rw [← mp_sw_cf HU HA, h, mp_sw_cf HU HA]
  · refine mp_ext HU (fun i => ?_)
    rw [mp_add HU, mp_sw_cf HU HA, mp_sw_cf HU HA, mp_sw_cf HU HA, mp_add HA, mp_add HU]
  · refine mp_ext HU (fun m => ?_)
    rw [mp_sw_cf HU HA, mp_mul HA, mp_sum HU, mp_sum HU]
    rw [mp_S_cong (g := fun k => mp_S (n + 1) (fun i => cu (ca a k) i * cu (ca b (m - k)) (n - i))) (fun k _ => mp_mul HU _ _ _), mp_S_swap]
    refine mp_S_cong (fun i _ => ?_)
    rw [mp_mul HU]
    exact mp_S_cong (fun k _ => by rw [mp_sw_cf HU HA, mp_sw_cf HU HA])
  · obtain ⟨N, hN⟩ := mp_xb HU HA a
    exact ⟨N, fun n hn => mp_ext HU (fun i => by rw [mp_sw_cf HU HA, mp_zero HU]; exact mp_sz_out HU (Nat.le_trans (hN i) hn))⟩
  · obtain ⟨M, hM⟩ := mp_maxb N (fun j => mp_sz cu (g j))
    have h1 : ∀ i j, cu (mp_mk cu (fun j => cu (g j) i)) j = cu (g j) i := fun i j => mp_mk_cf HU N (fun n hn => by rw [hg n hn, mp_zero HU]) j
    refine ⟨mp_mk ca (fun i => mp_mk cu (fun j => cu (g j) i)), fun n => mp_ext HU (fun i => ?_)⟩
    rw [mp_sw_cf HU HA, mp_mk_cf HA M (fun i hi => mp_ext HU (fun j => ?_)), h1]
    rw [h1, mp_zero HU]
    by_cases hj : j < N
    · exact mp_sz_out HU (Nat.le_trans (hM j hj) hi)
    · rw [hg j (by omega), mp_zero HU]
  · refine mp_ext HU (fun i => ?_)
    rw [mp_sw_cf HU HA, mp_one HA]
    by_cases hn : n = 0
    · rw [if_pos hn, mp_one HU]
      by_cases hi : i = 0
      · rw [if_pos hi, if_pos hi, mp_one HU, if_pos hn]
      · rw [if_neg hi, if_neg hi, mp_zero HU]
    · rw [if_neg hn, mp_zero HU]
      by_cases hi : i = 0
      · rw [if_pos hi, mp_one HU, if_neg hn]
      · rw [if_neg hi, mp_zero HU]
/-- the size in x -/
noncomputable def mp_xz [Lean.Grind.CommRing R] [Lean.Grind.CommRing U] (cu : U → Nat → R) (ca : A → Nat → U) (a : A) : Nat := mp_sz (mp_sw cu ca) a
theorem mp_xz_row [Lean.Grind.CommRing R] [Lean.Grind.CommRing U] [Lean.Grind.CommRing A] {cu : U → Nat → R} {ca : A → Nat → U} (HU : mp_P cu) (HA : mp_P ca) (a : A) (i : Nat) : mp_sz cu (ca a i) ≤ mp_xz cu ca a :=
  mp_sz_le HU (fun n hn => by rw [← mp_sw_cf HU HA, mp_sz_out (mp_sw_P HU HA) hn, mp_zero HU])
theorem mp_xz_le [Lean.Grind.CommRing R] [Lean.Grind.CommRing U] [Lean.Grind.CommRing A] {cu : U → Nat → R} {ca : A → Nat → U} (HU : mp_P cu) (HA : mp_P ca) {a : A} {N : Nat} (h : ∀ i, mp_sz cu (ca a i) ≤ N) : mp_xz cu ca a ≤ N :=
  mp_sz_le (mp_sw_P HU HA) (fun n hn => mp_ext HU (fun i => by rw [mp_sw_cf HU HA, mp_zero HU]; exact mp_sz_out HU (Nat.le_trans (h i) hn)))
theorem mp_xz_mul [Lean.Grind.CommRing R] [Lean.Grind.CommRing U] [Lean.Grind.CommRing A] {cu : U → Nat → R} {ca : A → Nat → U} (hF : mp_Fd R) (HU : mp_P cu) (HA : mp_P ca) {a b : A} (ha : a ≠ 0) (hb : b ≠ 0) : mp_xz cu ca (a * b) + 1 = mp_xz cu ca a + mp_xz cu ca b := mp_sz_mul (mp_sw_P HU HA) (mp_dom HU (mp_Fd_nz hF)) ha hb
theorem mp_xz_pos [Lean.Grind.CommRing R] [Lean.Grind.CommRing U] [Lean.Grind.CommRing A] {cu : U → Nat → R} {ca : A → Nat → U} (HU : mp_P cu) (HA : mp_P ca) {a : A} (ha : a ≠ 0) : 0 < mp_xz cu ca a := mp_sz_pos (mp_sw_P HU HA) ha
theorem mp_xz_C [Lean.Grind.CommRing R] [Lean.Grind.CommRing U] [Lean.Grind.CommRing A] {cu : U → Nat → R} {ca : A → Nat → U} (HU : mp_P cu) (HA : mp_P ca) (c : U) : mp_xz cu ca (mp_C ca c) = mp_sz cu c := by
  have h1 : mp_xz cu ca (mp_C ca c) ≤ mp_sz cu c := mp_xz_le HU HA (fun i => by
    rw [mp_C_cf HA]
    split
    · exact Nat.le_refl _
    · rw [(mp_sz_0 HU).mpr rfl]; omega)
  have h2 := mp_xz_row HU HA (mp_C ca c) 0
  rw [mp_C_cf HA, if_pos rfl] at h2
  omega
theorem mp_xz_some [Lean.Grind.CommRing R] [Lean.Grind.CommRing U] [Lean.Grind.CommRing A] {cu : U → Nat → R} {ca : A → Nat → U} (HU : mp_P cu) (HA : mp_P ca) {a : A} (ha : a ≠ 0) : ∃ i, i < mp_sz ca a ∧ mp_sz cu (ca a i) = mp_xz cu ca a := by
  refine Classical.byContradiction (fun hn => ?_)
  have hp := mp_xz_pos HU HA ha
  have h1 : mp_xz cu ca a ≤ mp_xz cu ca a - 1 := mp_xz_le HU HA (fun i => by
    have h2 := mp_xz_row HU HA a i
    by_cases hi : i < mp_sz ca a
    · have : mp_sz cu (ca a i) ≠ mp_xz cu ca a := fun e => hn ⟨i, hi, e⟩
      omega
    · rw [mp_sz_out HA (by omega), (mp_sz_0 HU).mpr rfl]; omega)
  omega
/-- one term -/
noncomputable def mp_mm [Lean.Grind.CommRing R] [Lean.Grind.CommRing U] [Lean.Grind.CommRing A] (cu : U → Nat → R) (ca : A → Nat → U) (i j : Nat) : A := mp_m ca (mp_m cu 1 j) i
theorem mp_mm_mul [Lean.Grind.CommRing R] [Lean.Grind.CommRing U] [Lean.Grind.CommRing A] {cu : U → Nat → R} {ca : A → Nat → U} (HU : mp_P cu) (HA : mp_P ca) (i j : Nat) (a : A) (k n : Nat) : cu (ca (mp_mm cu ca i j * a) k) n = if i ≤ k ∧ j ≤ n then cu (ca a (k - i)) (n - j) else 0 := by
  rw [mp_mm, mp_m_mul HA]
  by_cases h : i ≤ k
  · rw [if_pos h, mp_m_mul HU]
    by_cases h2 : j ≤ n
    · rw [if_pos h2, if_pos ⟨h, h2⟩]; grind
    · rw [if_neg h2, if_neg (fun q => h2 q.2)]
  · rw [if_neg h, if_neg (fun q => h q.1), mp_zero HU]
theorem mp_mm_cf [Lean.Grind.CommRing R] [Lean.Grind.CommRing U] [Lean.Grind.CommRing A] {cu : U → Nat → R} {ca : A → Nat → U} (HU : mp_P cu) (HA : mp_P ca) (i j k n : Nat) : cu (ca (mp_mm cu ca i j) k) n = if k = i ∧ n = j then 1 else 0 := by
  rw [mp_mm, mp_m_cf HA]
  by_cases h : k = i
  · rw [if_pos h, mp_m_cf HU]
    by_cases h2 : n = j
    · rw [if_pos h2, if_pos ⟨h, h2⟩]
    · rw [if_neg h2, if_neg (fun q => h2 q.2)]
  · rw [if_neg h, if_neg (fun q => h q.1), mp_zero HU]
theorem mp_CC_mul [Lean.Grind.CommRing R] [Lean.Grind.CommRing U] [Lean.Grind.CommRing A] {cu : U → Nat → R} {ca : A → Nat → U} (HU : mp_P cu) (HA : mp_P ca) (c : R) (a : A) (k n : Nat) : cu (ca (mp_C ca (mp_C cu c) * a) k) n = c * cu (ca a k) n := by
  rw [mp_C_mul HA, mp_C_mul HU]
set_option maxHeartbeats 4000000 in
/-- a line of x that is a sum of multiples of two polynomials that only units divide -/
theorem mp_res [Lean.Grind.CommRing R] [Lean.Grind.CommRing U] [Lean.Grind.CommRing A] {cu : U → Nat → R} {ca : A → Nat → U} (hF : mp_Fd R) (HU : mp_P cu) (HA : mp_P ca) {p q : A} (hc : mp_Cp p q) {m n D : Nat} (hm : mp_sz ca p = m + 1) (hn : mp_sz ca q = n + 1) (hp : mp_xz cu ca p ≤ D + 1) (hq : mp_xz cu ca q ≤ D + 1) : ∃ (u v : A) (r : U), r ≠ 0 ∧ u * p + v * q = mp_C ca r ∧ mp_sz cu r ≤ (m + n) * D + D + 1 := by
  have hU := mp_dom HU (mp_Fd_nz hF)
  have hAd := mp_dom HA hU
  have hp0 : p ≠ 0 := fun e => by rw [(mp_sz_0 HA).mpr e] at hm; omega
  have hq0 : q ≠ 0 := fun e => by rw [(mp_sz_0 HA).mpr e] at hn; omega
  have hpr := fun i => Nat.le_trans (mp_xz_row HU HA p i) hp
  have hqr := fun i => Nat.le_trans (mp_xz_row HU HA q i) hq
  by_cases hm0 : m = 0
  · subst hm0
    refine ⟨1, 0, ca p 0, mp_sz_top HA hm, ?_, ?_⟩
    · rw [← mp_sz_1 HA (Nat.le_of_eq hm)]; grind
    · have := hpr 0; omega
  by_cases hn0 : n = 0
  · subst hn0
    refine ⟨0, 1, ca q 0, mp_sz_top HA hn, ?_, ?_⟩
    · rw [← mp_sz_1 HA (Nat.le_of_eq hn)]; grind
    · have := hqr 0; omega
  obtain ⟨K, hK⟩ : ∃ K, K = (m + n) * D := ⟨_, rfl⟩
  obtain ⟨w, hw⟩ : ∃ w : Nat → A, w = fun k => if k / (K + 1) < n then mp_mm cu ca (k / (K + 1)) (k % (K + 1)) * p else mp_mm cu ca (k / (K + 1) - n) (k % (K + 1)) * q := ⟨_, rfl⟩
  have hwx : ∀ k i j, K + D + 1 ≤ j → cu (ca (w k) i) j = 0 := by
    intro k i j hj
    have hk : k % (K + 1) < K + 1 := Nat.mod_lt _ (by omega)
    rw [hw]
    dsimp only
    split
    · rw [mp_mm_mul HU HA]
      split
      · exact mp_sz_out HU (Nat.le_trans (hpr _) (by omega))
      · rfl
    · rw [mp_mm_mul HU HA]
      split
      · exact mp_sz_out HU (Nat.le_trans (hqr _) (by omega))
      · rfl
  have hwt : ∀ k i, k < (m + n) * (K + 1) → m + n ≤ i → ca (w k) i = 0 := by
    intro k i hk hi
    have h2 : k / (K + 1) < m + n := Nat.div_lt_of_lt_mul (by rw [Nat.mul_comm]; exact hk)
    rw [hw]
    dsimp only
    split
    · rw [mp_mm, mp_m_mul HA]
      split
      · rw [mp_sz_out HA (by omega)]; grind
      · rfl
    · rw [mp_mm, mp_m_mul HA]
      split
      · rw [mp_sz_out HA (by omega)]; grind
      · rfl
  obtain ⟨c, ⟨k0, hk0, hc0⟩, hsol⟩ := mp_lin hF ((m + n - 1) * (K + D + 1)) ((m + n) * (K + 1)) (fun k e => cu (ca (w k) (e / (K + D + 1) + 1)) (e % (K + D + 1))) (by
    obtain ⟨z, hz⟩ : ∃ z, m + n = z + 1 := ⟨m + n - 1, by omega⟩
    rw [hK, hz]
    simp only [Nat.add_sub_cancel, Nat.mul_add, Nat.add_mul, Nat.mul_one, Nat.one_mul]
    have : z * D ≤ z * D + D := by omega
    omega)
  have hwc : ∀ i j, cu (ca (mp_S ((m + n) * (K + 1)) (fun k => mp_C ca (mp_C cu (c k)) * w k)) i) j = mp_S ((m + n) * (K + 1)) (fun k => c k * cu (ca (w k) i) j) := by
    intro i j
    rw [mp_sum HA, mp_sum HU]
    exact mp_S_cong (fun k _ => mp_CC_mul HU HA _ _ _ _)
  have hW : ∀ i, 1 ≤ i → ca (mp_S ((m + n) * (K + 1)) (fun k => mp_C ca (mp_C cu (c k)) * w k)) i = 0 := by
    intro i hi
    refine mp_ext HU (fun j => ?_)
    rw [hwc, mp_zero HU]
    by_cases hj : K + D + 1 ≤ j
    · exact mp_S_zero (fun k _ => by rw [hwx k i j hj]; grind)
    · by_cases hi2 : m + n ≤ i
      · exact mp_S_zero (fun k hk => by rw [hwt k i hk hi2, mp_zero HU]; grind)
      · have h1 := hsol ((i - 1) * (K + D + 1) + j) (by
          have : (i - 1) + 1 ≤ m + n - 1 := by omega
          have h9 := Nat.mul_le_mul_right (K + D + 1) this
          rw [Nat.add_mul, Nat.one_mul] at h9
          omega)
        have e1 : ((i - 1) * (K + D + 1) + j) / (K + D + 1) = i - 1 := by
          rw [Nat.mul_comm, Nat.mul_add_div (by omega), Nat.div_eq_of_lt (by omega)]
          rfl
        have e2 : ((i - 1) * (K + D + 1) + j) % (K + D + 1) = j := by
          rw [Nat.mul_comm, Nat.mul_add_mod, Nat.mod_eq_of_lt (by omega)]
        rw [e1, e2, show i - 1 + 1 = i by omega] at h1
        exact h1
  have hWr := mp_sz_1 HA (mp_sz_le HA (M := 1) hW)
  obtain ⟨u, hu⟩ : ∃ u : A, u = mp_S ((m + n) * (K + 1)) (fun k => if k / (K + 1) < n then mp_C ca (mp_C cu (c k)) * mp_mm cu ca (k / (K + 1)) (k % (K + 1)) else 0) := ⟨_, rfl⟩
  obtain ⟨v, hv⟩ : ∃ v : A, v = mp_S ((m + n) * (K + 1)) (fun k => if k / (K + 1) < n then 0 else mp_C ca (mp_C cu (c k)) * mp_mm cu ca (k / (K + 1) - n) (k % (K + 1))) := ⟨_, rfl⟩
  have huv : u * p + v * q = mp_S ((m + n) * (K + 1)) (fun k => mp_C ca (mp_C cu (c k)) * w k) := by
    rw [hu, hv, ← mp_S_mulr, ← mp_S_mulr, ← mp_S_add]
    refine mp_S_cong (fun k _ => ?_)
    rw [hw]
    dsimp only
    split <;> grind
  have hcu : ∀ i j, cu (ca u i) j = mp_S ((m + n) * (K + 1)) (fun k => if k / (K + 1) < n ∧ i = k / (K + 1) ∧ j = k % (K + 1) then c k else 0) := by
    intro i j
    rw [hu, mp_sum HA, mp_sum HU]
    refine mp_S_cong (fun k _ => ?_)
    split
    · next h =>
      rw [mp_CC_mul HU HA, mp_mm_cf HU HA]
      by_cases h2 : i = k / (K + 1) ∧ j = k % (K + 1)
      · rw [if_pos h2, if_pos ⟨h, h2⟩]; grind
      · rw [if_neg h2, if_neg (fun z => h2 z.2)]; grind
    · next h => rw [if_neg (fun z => h z.1), mp_zero HA, mp_zero HU]
  have hcv : ∀ i j, cu (ca v i) j = mp_S ((m + n) * (K + 1)) (fun k => if ¬ k / (K + 1) < n ∧ i = k / (K + 1) - n ∧ j = k % (K + 1) then c k else 0) := by
    intro i j
    rw [hv, mp_sum HA, mp_sum HU]
    refine mp_S_cong (fun k _ => ?_)
    split
    · next h => rw [if_neg (fun z => z.1 h), mp_zero HA, mp_zero HU]
    · next h =>
      rw [mp_CC_mul HU HA, mp_mm_cf HU HA]
      by_cases h2 : i = k / (K + 1) - n ∧ j = k % (K + 1)
      · rw [if_pos h2, if_pos ⟨h, h2⟩]; grind
      · rw [if_neg h2, if_neg (fun z => h2 z.2)]; grind
  have hdm : ∀ k k' : Nat, k / (K + 1) = k' / (K + 1) → k % (K + 1) = k' % (K + 1) → k = k' := by
    intro k k' h1 h2
    rw [← Nat.div_add_mod k (K + 1), ← Nat.div_add_mod k' (K + 1), h1, h2]
  refine ⟨u, v, _, ?_, huv.trans hWr, ?_⟩
  · intro hr
    rw [hr, mp_C_0 HA] at hWr
    rw [hWr] at huv
    have hu0 : u = 0 := by
      refine Classical.byContradiction (fun hne => ?_)
      have hd : mp_D q u := mp_euclid hF HU HA hq0 hc (p := p) ⟨-v, by grind⟩
      have h1 := mp_D_sz HA hU hd hne
      have h2 : mp_sz ca u ≤ n := mp_sz_le HA (fun i hi => mp_ext HU (fun j => by
        rw [hcu, mp_zero HU]
        exact mp_S_zero (fun k _ => if_neg (by omega))))
      omega
    have hv0 : v = 0 := by
      rcases hAd.1 v q (by rw [hu0] at huv; grind) with z | z
      · exact z
      · exact absurd z hq0
    by_cases hkn : k0 / (K + 1) < n
    · have h1 := hcu (k0 / (K + 1)) (k0 % (K + 1))
      rw [hu0, mp_zero HA, mp_zero HU, mp_S_one (k := k0) hk0 (fun i _ hi => if_neg (fun z => hi (hdm _ _ z.2.1.symm z.2.2.symm))), if_pos ⟨hkn, rfl, rfl⟩] at h1
      exact hc0 h1.symm
    · have h1 := hcv (k0 / (K + 1) - n) (k0 % (K + 1))
      rw [hv0, mp_zero HA, mp_zero HU, mp_S_one (k := k0) hk0 (fun i _ hi => if_neg (fun z => hi (hdm _ _ (by have := z.1; have := z.2.1; omega) z.2.2.symm))), if_pos ⟨hkn, rfl, rfl⟩] at h1
      exact hc0 h1.symm
  · rw [← hK]
    exact mp_sz_le HU (fun j hj => by rw [hwc]; exact mp_S_zero (fun k _ => by rw [hwx k 0 j hj]; grind))
end
end
section
/-! images at a number for x, and what the divisor is pieced together to -/
section
variable {R U A : Type}
theorem mp_e_S [Lean.Grind.CommRing R] [Lean.Grind.CommRing A] {cf : A → Nat → R} (H : mp_P cf) (hR : mp_NZ R) (w : R) (f : Nat → A) : ∀ n, mp_e cf w (mp_S n f) = mp_S n (fun i => mp_e cf w (f i))
  | 0 => mp_e_0 H hR w
  | n + 1 => by rw [mp_S_s, mp_S_s, mp_e_add H hR, mp_e_S H hR w f n]
noncomputable def mp_im [Lean.Grind.CommRing R] [Lean.Grind.CommRing U] (cu : U → Nat → R) (ca : A → Nat → U) (w : R) (a : A) : U := mp_mk cu (fun n => mp_e cu w (ca a n))
theorem mp_im_cf [Lean.Grind.CommRing R] [Lean.Grind.CommRing U] [Lean.Grind.CommRing A] {cu : U → Nat → R} {ca : A → Nat → U} (hF : mp_Fd R) (HU : mp_P cu) (HA : mp_P ca) (w : R) (a : A) (n : Nat) : cu (mp_im cu ca w a) n = mp_e cu w (ca a n) := by
  obtain ⟨N, hN⟩ := HA.2.2.2.1 a
  exact mp_mk_cf HU N (fun n hn => by rw [hN n hn, mp_e_0 HU (mp_Fd_nz hF)]) n
theorem mp_im_add [Lean.Grind.CommRing R] [Lean.Grind.CommRing U] [Lean.Grind.CommRing A] {cu : U → Nat → R} {ca : A → Nat → U} (hF : mp_Fd R) (HU : mp_P cu) (HA : mp_P ca) (w : R) (a b : A) : mp_im cu ca w (a + b) = mp_im cu ca w a + mp_im cu ca w b :=
  mp_ext HU (fun n => by rw [mp_add HU, mp_im_cf hF HU HA, mp_im_cf hF HU HA, mp_im_cf hF HU HA, mp_add HA, mp_e_add HU (mp_Fd_nz hF)])
theorem mp_im_mul [Lean.Grind.CommRing R] [Lean.Grind.CommRing U] [Lean.Grind.CommRing A] {cu : U → Nat → R} {ca : A → Nat → U} (hF : mp_Fd R) (HU : mp_P cu) (HA : mp_P ca) (w : R) (a b : A) : mp_im cu ca w (a * b) = mp_im cu ca w a * mp_im cu ca w b :=
  mp_ext HU (fun n => by
    rw [mp_im_cf hF HU HA, mp_mul HA, mp_e_S HU (mp_Fd_nz hF), mp_mul HU]
    exact mp_S_cong (fun i _ => by rw [mp_e_mul HU (mp_Fd_nz hF), mp_im_cf hF HU HA, mp_im_cf hF HU HA]))
theorem mp_im_C [Lean.Grind.CommRing R] [Lean.Grind.CommRing U] [Lean.Grind.CommRing A] {cu : U → Nat → R} {ca : A → Nat → U} (hF : mp_Fd R) (HU : mp_P cu) (HA : mp_P ca) (w : R) (c : U) : mp_im cu ca w (mp_C ca c) = mp_C cu (mp_e cu w c) :=
  mp_ext HU (fun n => by
    rw [mp_im_cf hF HU HA, mp_C_cf HA, mp_C_cf HU]
    split
    · rfl
    · exact mp_e_0 HU (mp_Fd_nz hF) w)
theorem mp_im_D [Lean.Grind.CommRing R] [Lean.Grind.CommRing U] [Lean.Grind.CommRing A] {cu : U → Nat → R} {ca : A → Nat → U} (hF : mp_Fd R) (HU : mp_P cu) (HA : mp_P ca) (w : R) {a b : A} (h : mp_D a b) : mp_D (mp_im cu ca w a) (mp_im cu ca w b) := by
  obtain ⟨c, rfl⟩ := h
  exact ⟨mp_im cu ca w c, mp_im_mul hF HU HA w a c⟩
theorem mp_im_sz [Lean.Grind.CommRing R] [Lean.Grind.CommRing U] [Lean.Grind.CommRing A] {cu : U → Nat → R} {ca : A → Nat → U} (hF : mp_Fd R) (HU : mp_P cu) (HA : mp_P ca) {w : R} {a : A} (ha : a ≠ 0) (h : mp_e cu w (mp_lc ca a) ≠ 0) : mp_sz cu (mp_im cu ca w a) = mp_sz ca a := by
  obtain ⟨m, hm⟩ : ∃ m, mp_sz ca a = m + 1 := ⟨mp_sz ca a - 1, by have := mp_sz_pos HA ha; omega⟩
  rw [hm]
  rw [mp_lc, hm] at h
  exact mp_sz_eq HU (fun j hj => by rw [mp_im_cf hF HU HA, mp_sz_out HA (by omega), mp_e_0 HU (mp_Fd_nz hF)]) (by rw [mp_im_cf hF HU HA]; exact h)
/-- the head of a divisor stays where the head of the divided one does -/
theorem mp_lc_D [Lean.Grind.CommRing R] [Lean.Grind.CommRing U] [Lean.Grind.CommRing A] {cu : U → Nat → R} {ca : A → Nat → U} (hF : mp_Fd R) (HU : mp_P cu) (HA : mp_P ca) {w : R} {d a : A} (ha : a ≠ 0) (hd : mp_D d a) (h : mp_e cu w (mp_lc ca a) ≠ 0) : d ≠ 0 ∧ mp_D (mp_lc ca d) (mp_lc ca a) ∧ mp_e cu w (mp_lc ca d) ≠ 0 := by
  obtain ⟨c, rfl⟩ := hd
  have hd0 : d ≠ 0 := fun e => ha (by rw [e]; grind)
  have hc0 : c ≠ 0 := fun e => ha (by rw [e]; grind)
  have hl := (mp_lc_mul HA (mp_dom HU (mp_Fd_nz hF)) hd0 hc0).2
  refine ⟨hd0, ⟨mp_lc ca c, hl⟩, fun e => h ?_⟩
  rw [hl, mp_e_mul HU (mp_Fd_nz hF), e]
  grind
/-- a monic greatest common divisor, 0 of two 0s -/
def mq_mg [Lean.Grind.CommRing R] [Lean.Grind.CommRing U] (cu : U → Nat → R) (x y h : U) : Prop := mp_G x y h ∧ (h = 0 ∨ mp_lc cu h = 1)
/-- the monic content -/
def mq_ct [Lean.Grind.CommRing R] [Lean.Grind.CommRing U] [Lean.Grind.CommRing A] (cu : U → Nat → R) (ca : A → Nat → U) (a : A) (c : U) : Prop := mp_lc cu c = 1 ∧ mp_D (mp_C ca c) a ∧ ∀ d, mp_D (mp_C ca d) a → mp_D d c
theorem mq_lc_ne [Lean.Grind.CommRing R] [Lean.Grind.CommRing U] {cu : U → Nat → R} (hF : mp_Fd R) (HU : mp_P cu) {c : U} (h : mp_lc cu c = 1) : c ≠ 0 := fun e => hF.2 (by rw [← h, e, mp_lc, mp_zero HU])
/-- every common divisor is at most as long in t as that of the images -/
theorem mq_below [Lean.Grind.CommRing R] [Lean.Grind.CommRing U] [Lean.Grind.CommRing A] {cu : U → Nat → R} {ca : A → Nat → U} (hF : mp_Fd R) (HU : mp_P cu) (HA : mp_P ca) {a b : A} (ha : a ≠ 0) {w : R} {h : U} (hg : mq_mg cu (mp_im cu ca w a) (mp_im cu ca w b) h) (hh : mp_e cu w (mp_lc ca a) ≠ 0) : ∀ d, mp_D d a → mp_D d b → mp_sz ca d ≤ mp_sz cu h := by
  intro d h1 h2
  obtain ⟨hd0, -, h3⟩ := mp_lc_D hF HU HA ha h1 hh
  rw [← mp_im_sz hF HU HA hd0 h3]
  have h4 := hg.1.2.2 _ (mp_im_D hF HU HA w h1) (mp_im_D hF HU HA w h2)
  refine mp_D_sz HU (mp_Fd_nz hF) h4 (fun e => ?_)
  have h5 := hg.1.1
  rw [e] at h5
  obtain ⟨c, hc⟩ := h5
  have h6 := mp_im_sz hF HU HA ha hh
  rw [hc, show (0 : U) * c = 0 by grind, (mp_sz_0 HU).mpr rfl] at h6
  have := mp_sz_pos HA ha
  omega
/-- one that is as long as the images' divisor, and holds the whole content, is the greatest -/
theorem mq_found [Lean.Grind.CommRing R] [Lean.Grind.CommRing U] [Lean.Grind.CommRing A] {cu : U → Nat → R} {ca : A → Nat → U} (hF : mp_Fd R) (HU : mp_P cu) (HA : mp_P ca) {a b f p q : A} {c : U} (ha : a ≠ 0) (hc0 : c ≠ 0) (hc : ∀ d, mp_D (mp_C ca d) a → mp_D (mp_C ca d) b → mp_D d c) (hcf : mp_D (mp_C ca c) f) (hp : a = f * p) (hq : b = f * q) (hs : ∀ d, mp_D d a → mp_D d b → mp_sz ca d ≤ mp_sz ca f) : mp_Cp p q := by
  have hU := mp_dom HU (mp_Fd_nz hF)
  rintro d ⟨x, hx⟩ ⟨y, hy⟩
  have hf0 : f ≠ 0 := fun e => ha (by rw [hp, e]; grind)
  have hd0 : d ≠ 0 := fun e => ha (by rw [hp, hx, e]; grind)
  have h1 := hs (f * d) ⟨x, by grind⟩ ⟨y, by grind⟩
  have h2 := mp_sz_mul HA hU hf0 hd0
  have h3 := mp_sz_pos HA hd0
  have h4 := mp_sz_1 HA (a := d) (by omega)
  obtain ⟨z, hz⟩ := hcf
  have h5 : mp_D (c * ca d 0) c := by
    refine hc _ ?_ ?_
    · rw [mp_C_mulC HA, ← h4]; exact ⟨z * x, by grind⟩
    · rw [mp_C_mulC HA, ← h4]; exact ⟨z * y, by grind⟩
  obtain ⟨t, ht⟩ := h5
  rw [h4]
  exact mp_U_C HA ⟨t, mp_cancel hU hc0 (by grind)⟩
/-- the content, divided out -/
theorem mq_prim [Lean.Grind.CommRing R] [Lean.Grind.CommRing U] [Lean.Grind.CommRing A] {cu : U → Nat → R} {ca : A → Nat → U} (hF : mp_Fd R) (HU : mp_P cu) (HA : mp_P ca) {a a1 : A} {c : U} (h : mq_ct cu ca a c) (e : a = mp_C ca c * a1) : ∀ d, mp_D (mp_C ca d) a1 → mp_U d := by
  intro d ⟨y, hy⟩
  have hc0 := mq_lc_ne hF HU h.1
  obtain ⟨t, ht⟩ := h.2.2 (c * d) ⟨y, by rw [mp_C_mulC HA]; grind⟩
  exact ⟨t, mp_cancel (mp_dom HU (mp_Fd_nz hF)) hc0 (by grind)⟩
/-- a content there is -/
theorem mq_ct_ex [Lean.Grind.CommRing R] [Lean.Grind.CommRing U] [Lean.Grind.CommRing A] {cu : U → Nat → R} {ca : A → Nat → U} (hF : mp_Fd R) (HU : mp_P cu) (HA : mp_P ca) {a : A} (ha : a ≠ 0) : ∃ c, mq_ct cu ca a c := by
  have hU := mp_dom HU (mp_Fd_nz hF)
  have key : ∀ n, ∃ c, (∀ i, i < n → mp_D c (ca a i)) ∧ ∀ d, (∀ i, i < n → mp_D d (ca a i)) → mp_D d c := by
    intro n
    induction n with
    | zero => exact ⟨0, fun i h => absurd h (Nat.not_lt_zero _), fun d _ => mp_D_0 d⟩
    | succ n ih =>
      obtain ⟨c, h1, h2⟩ := ih
      obtain ⟨d, u, v, h3, h4, h5⟩ := mp_bez HU hF _ c (ca a n) (Nat.le_refl _)
      refine ⟨d, fun i hi => ?_, fun e he => ?_⟩
      · by_cases hn : i = n
        · rw [hn]; exact h5
        · exact mp_D_tr h4 (h1 i (by omega))
      · rw [h3]
        exact mp_D_add (mp_D_mul' (h2 e (fun i hi => he i (by omega))) u) (mp_D_mul' (he n (by omega)) v)
  obtain ⟨c, h1, h2⟩ := key (mp_sz ca a)
  have hc0 : c ≠ 0 := fun e => by
    have h3 := mp_sz_pos HA ha
    obtain ⟨y, hy⟩ := h1 (mp_sz ca a - 1) (by omega)
    exact mp_lc_ne HA ha (by rw [mp_lc, hy, e]; grind)
  obtain ⟨y, hy⟩ := hF.1 _ (mp_lc_ne HU hc0)
  have hy0 : y ≠ 0 := fun e => hF.2 (by rw [← hy, e]; grind)
  have hyu : mp_C cu y * mp_C cu (mp_lc cu c) = 1 := by rw [← mp_C_mulC HU, show y * mp_lc cu c = 1 by grind, mp_C_1 HU]
  refine ⟨mp_C cu y * c, ?_, (mp_C_D HA).mpr (fun n => ?_), fun d hd => ?_⟩
  · rw [(mp_lc_mul HU (mp_Fd_nz hF) (mp_C_ne HU hy0) hc0).2, show mp_lc cu (mp_C cu y) = y by rw [mp_lc, mp_sz_CE HU hy0, mp_C_cf HU]; rfl]
    grind
  · by_cases hn : n < mp_sz ca a
    · obtain ⟨z, hz⟩ := h1 n hn
      exact ⟨mp_C cu (mp_lc cu c) * z, by grind⟩
    · rw [mp_sz_out HA (by omega)]; exact mp_D_0 _
  · exact mp_D_mul' (h2 d (fun i _ => (mp_C_D HA).mp hd i)) _
theorem mq_gC [Lean.Grind.CommRing R] [Lean.Grind.CommRing U] [Lean.Grind.CommRing A] {cu : U → Nat → R} {ca : A → Nat → U} (hF : mp_Fd R) (HU : mp_P cu) (HA : mp_P ca) {c : U} {g a : A} (hc0 : c ≠ 0) (hg0 : g ≠ 0) (hg : ∀ d, mp_D (mp_C ca d) g → mp_U d) (h : mp_D g (mp_C ca c * a)) : mp_D g a := by
  have hU := mp_dom HU (mp_Fd_nz hF)
  refine mp_euclid hF HU HA hg0 (p := mp_C ca c) (fun d h1 h2 => ?_) h
  have hs := mp_D_sz HA hU h1 (mp_C_ne HA hc0)
  rw [mp_sz_CE HA hc0] at hs
  have he := mp_sz_1 HA hs
  rw [he] at h2 ⊢
  exact mp_U_C HA (hg _ h2)
set_option maxHeartbeats 4000000 in
/-- what find works towards -/
theorem mq_setup [Lean.Grind.CommRing R] [Lean.Grind.CommRing U] [Lean.Grind.CommRing A] {cu : U → Nat → R} {ca : A → Nat → U} (hF : mp_Fd R) (HU : mp_P cu) (HA : mp_P ca) {a b a1 b1 : A} {c1 c2 c lead : U} {m n D : Nat} (ha : a ≠ 0) (hb : b ≠ 0) (hc1 : mq_ct cu ca a c1) (hc2 : mq_ct cu ca b c2) (hc : mq_mg cu c1 c2 c) (ea : a = mp_C ca c1 * a1) (eb : b = mp_C ca c2 * b1) (hl : mq_mg cu (mp_lc ca a1) (mp_lc ca b1) lead)
    (hm : mp_sz ca a ≤ m + 1) (hn : mp_sz ca b ≤ n + 1) (hD1 : mp_xz cu ca a ≤ D + 1) (hD2 : mp_xz cu ca b ≤ D + 1) :
    ∃ (g h : A) (B : U), mp_D g a ∧ mp_D g b ∧ (∀ d, mp_D d a → mp_D d b → mp_D d g) ∧ g ≠ 0 ∧ mp_sz ca h = mp_sz ca g ∧ h ≠ 0 ∧ mp_xz cu ca h + 1 ≤ mp_xz cu ca a1 + mp_sz cu lead ∧ mp_xz cu ca h + 1 ≤ mp_xz cu ca b1 + mp_sz cu lead ∧
      (∀ w k, mp_e cu w (mp_lc ca a) ≠ 0 → mq_mg cu (mp_im cu ca w a) (mp_im cu ca w b) k → mp_sz cu k = mp_sz ca g → ∀ i, mp_e cu w lead * cu k i = mp_e cu w (ca h i)) ∧
      B ≠ 0 ∧ mp_sz cu B ≤ (m + n) * D + 3 * D + 1 ∧ (∀ w, mp_e cu w B ≠ 0 → mp_e cu w (mp_lc ca a) ≠ 0 ∧ mp_e cu w (mp_lc ca b) ≠ 0 ∧ ∀ k, mq_mg cu (mp_im cu ca w a) (mp_im cu ca w b) k → mp_sz cu k = mp_sz ca g) ∧
      (∀ k, mq_ct cu ca h k → ∃ f, mp_C ca k * f = mp_C ca c * h ∧ mp_D f a ∧ mp_D f b) := by
  have hU := mp_dom HU (mp_Fd_nz hF)
  have hAd := mp_dom HA hU
  obtain ⟨p, q, hlt⟩ := mp_lt_ex hF HU HA a hb
  obtain ⟨g, hg0, hpg, hqg, hG⟩ := mp_lt_g hAd hb hlt
  have hcp := mp_lt_cp hAd hb hlt
  obtain ⟨cg, hcg⟩ := mq_ct_ex hF HU HA hg0
  obtain ⟨g1, hg1⟩ := hcg.2.1
  have hprim := mq_prim hF HU HA hcg hg1
  have hcg0 := mq_lc_ne hF HU hcg.1
  have hc10 := mq_lc_ne hF HU hc1.1
  have hc20 := mq_lc_ne hF HU hc2.1
  have hg10 : g1 ≠ 0 := fun e => hg0 (by rw [hg1, e]; grind)
  have ha10 : a1 ≠ 0 := fun e => ha (by rw [ea, e]; grind)
  have hb10 : b1 ≠ 0 := fun e => hb (by rw [eb, e]; grind)
  have hga : mp_D g1 a1 := mq_gC hF HU HA hc10 hg10 hprim (by rw [← ea]; exact mp_D_tr ⟨mp_C ca cg, by grind⟩ hG.1)
  have hgb : mp_D g1 b1 := mq_gC hF HU HA hc20 hg10 hprim (by rw [← eb]; exact mp_D_tr ⟨mp_C ca cg, by grind⟩ hG.2.1)
  have hlg : mp_D (mp_lc ca g1) lead := by
    refine hl.1.2.2 _ ?_ ?_
    · obtain ⟨y, hy⟩ := hga
      have hy0 : y ≠ 0 := fun e => ha10 (by rw [hy, e]; grind)
      exact ⟨mp_lc ca y, by rw [hy]; exact (mp_lc_mul HA hU hg10 hy0).2⟩
    · obtain ⟨y, hy⟩ := hgb
      have hy0 : y ≠ 0 := fun e => hb10 (by rw [hy, e]; grind)
      exact ⟨mp_lc ca y, by rw [hy]; exact (mp_lc_mul HA hU hg10 hy0).2⟩
  obtain ⟨kap, hkap⟩ := hlg
  have hlead0 : lead ≠ 0 := fun e => by
    obtain ⟨y, hy⟩ := hl.1.1
    exact mp_lc_ne HA ha10 (by rw [hy, e]; grind)
  have hkap0 : kap ≠ 0 := fun e => hlead0 (by rw [hkap, e]; grind)
  have hp0 : p ≠ 0 := fun e => ha (by rw [hpg, e]; grind)
  have hq0 := hlt.1
  have hszg : mp_sz ca g = mp_sz ca g1 := by rw [hg1]; exact mp_sz_Cmul HA hU hcg0 g1
  have hszh : mp_sz ca (mp_C ca kap * g1) = mp_sz ca g := by rw [hszg]; exact mp_sz_Cmul HA hU hkap0 g1
  have hh0 : mp_C ca kap * g1 ≠ 0 := mp_nz_mul hAd (mp_C_ne HA hkap0) hg10
  have hxh := mp_xz_mul hF HU HA (mp_C_ne HA hkap0) hg10
  rw [mp_xz_C HU HA] at hxh
  have hsl := mp_sz_mul HU (mp_Fd_nz hF) (mp_lc_ne HA hg10) hkap0
  rw [← hkap] at hsl
  have hlg1 := mp_sz_pos HU (mp_lc_ne HA hg10)
  have hx1 : mp_xz cu ca g1 ≤ mp_xz cu ca a1 := mp_D_sz (mp_sw_P HU HA) hU hga ha10
  have hx2 : mp_xz cu ca g1 ≤ mp_xz cu ca b1 := mp_D_sz (mp_sw_P HU HA) hU hgb hb10
  obtain ⟨mp', hmp'⟩ : ∃ z, mp_sz ca p = z + 1 := ⟨mp_sz ca p - 1, by have := mp_sz_pos HA hp0; omega⟩
  obtain ⟨nq', hnq'⟩ : ∃ z, mp_sz ca q = z + 1 := ⟨mp_sz ca q - 1, by have := mp_sz_pos HA hq0; omega⟩
  have hDa : mp_D p a := ⟨g, hpg⟩
  have hDb : mp_D q b := ⟨g, hqg⟩
  have hs1 := mp_D_sz HA hU hDa ha
  have hs2 := mp_D_sz HA hU hDb hb
  have hx3 : mp_xz cu ca p ≤ mp_xz cu ca a := mp_D_sz (mp_sw_P HU HA) hU hDa ha
  have hx4 : mp_xz cu ca q ≤ mp_xz cu ca b := mp_D_sz (mp_sw_P HU HA) hU hDb hb
  obtain ⟨u, v, r, hr0, huv, hrs⟩ := mp_res hF HU HA hcp hmp' hnq' (D := D) (by omega) (by omega)
  have hlas : mp_sz cu (mp_lc ca a) ≤ D + 1 := Nat.le_trans (mp_xz_row HU HA a _) hD1
  have hlbs : mp_sz cu (mp_lc ca b) ≤ D + 1 := Nat.le_trans (mp_xz_row HU HA b _) hD2
  have hla0 := mp_lc_ne HA ha
  have hlb0 := mp_lc_ne HA hb
  have hUd := mp_Fd_nz hF
  have hlab0 := mp_nz_mul hU hla0 hlb0
  refine ⟨g, mp_C ca kap * g1, mp_lc ca a * mp_lc ca b * r, hG.1, hG.2.1, hG.2.2, hg0, hszh, hh0, by omega, by omega, ?_, mp_nz_mul hU hlab0 hr0, ?_, ?_, ?_⟩
  · intro w k hw hk hks i
    have hdg : mp_D g1 a := mp_D_tr ⟨mp_C ca cg, by grind⟩ hG.1
    have hdg2 : mp_D g1 b := mp_D_tr ⟨mp_C ca cg, by grind⟩ hG.2.1
    obtain ⟨-, -, h1⟩ := mp_lc_D hF HU HA ha hdg hw
    have h2 := hk.1.2.2 _ (mp_im_D hF HU HA w hdg) (mp_im_D hF HU HA w hdg2)
    have h3 := mp_im_sz hF HU HA hg10 h1
    have hk0 : k ≠ 0 := fun e => by
      rw [e, (mp_sz_0 HU).mpr rfl] at hks
      have := mp_sz_pos HA hg0
      omega
    obtain ⟨z, hz0, hz⟩ := mp_D_same HU hUd h2 hk0 (by omega)
    have hlk : mp_lc cu k = 1 := hk.2.resolve_left hk0
    have h4 : z * mp_e cu w (mp_lc ca g1) = 1 := by
      have h5 := hlk
      rw [mp_lc, hks, hszg, hz, mp_C_mul HU, mp_im_cf hF HU HA] at h5
      exact h5
    have h6 : cu k i = z * mp_e cu w (ca g1 i) := by rw [hz, mp_C_mul HU, mp_im_cf hF HU HA]
    rw [h6, mp_C_mul HA, mp_e_mul HU hUd, hkap, mp_e_mul HU hUd]
    grind
  · have h1 := mp_sz_mul HU hUd hla0 hlb0
    have h2 := mp_sz_mul HU hUd hlab0 hr0
    have h3 : (mp' + nq') * D ≤ (m + n) * D := Nat.mul_le_mul_right D (by omega)
    omega
  · intro w hw
    rw [mp_e_mul HU hUd, mp_e_mul HU hUd] at hw
    have w1 : mp_e cu w (mp_lc ca a) ≠ 0 := fun e => hw (by rw [e]; grind)
    have w2 : mp_e cu w (mp_lc ca b) ≠ 0 := fun e => hw (by rw [e]; grind)
    have w3 : mp_e cu w r ≠ 0 := fun e => hw (by rw [e]; grind)
    refine ⟨w1, w2, fun k hk => ?_⟩
    have h1 := mq_below hF HU HA ha hk w1 g hG.1 hG.2.1
    obtain ⟨-, -, w4⟩ := mp_lc_D hF HU HA ha hG.1 w1
    have h2 := mp_im_sz hF HU HA hg0 w4
    obtain ⟨y, hy⟩ := hF.1 _ w3
    have e1 : mp_im cu ca w u * mp_im cu ca w p + mp_im cu ca w v * mp_im cu ca w q = mp_C cu (mp_e cu w r) := by
      rw [← mp_im_mul hF HU HA, ← mp_im_mul hF HU HA, ← mp_im_add hF HU HA, huv, mp_im_C hF HU HA]
    have e2 : mp_im cu ca w a = mp_im cu ca w p * mp_im cu ca w g := by rw [hpg, mp_im_mul hF HU HA]
    have e3 : mp_im cu ca w b = mp_im cu ca w q * mp_im cu ca w g := by rw [hqg, mp_im_mul hF HU HA]
    have e4 : mp_C cu y * mp_C cu (mp_e cu w r) = 1 := by rw [← mp_C_mulC HU, show y * mp_e cu w r = 1 by grind, mp_C_1 HU]
    have e5 : mp_im cu ca w g = mp_C cu y * (mp_im cu ca w u * mp_im cu ca w a + mp_im cu ca w v * mp_im cu ca w b) := by grind
    have h3 : mp_D k (mp_im cu ca w g) := by
      rw [e5]
      exact mp_D_mul' (mp_D_add (mp_D_mul' hk.1.1 _) (mp_D_mul' hk.1.2.1 _)) _
    have hig : mp_im cu ca w g ≠ 0 := fun e => by
      rw [e, (mp_sz_0 HU).mpr rfl] at h2
      have := mp_sz_pos HA hg0
      omega
    have h4 := mp_D_sz HU hUd h3 hig
    omega
  · intro k hk
    have hk0 := mq_lc_ne hF HU hk.1
    obtain ⟨x, hx⟩ := hk.2.2 kap ⟨g1, rfl⟩
    have hx0 : x ≠ 0 := fun e => hk0 (by rw [hx, e]; grind)
    have hy : mp_D (mp_C ca x) g1 := by
      obtain ⟨z, hz⟩ := hk.2.1
      refine ⟨z, mp_cancel hAd (mp_C_ne HA hkap0) ?_⟩
      rw [hz, hx, mp_C_mulC HA]
      grind
    obtain ⟨y, hxy⟩ := hprim x hy
    have hxy2 : mp_C ca x * mp_C ca y = 1 := by rw [← mp_C_mulC HA, hxy, mp_C_1 HA]
    obtain ⟨d1, hd1⟩ := hc.1.1
    obtain ⟨d2, hd2⟩ := hc.1.2.1
    obtain ⟨z1, hz1⟩ := hga
    obtain ⟨z2, hz2⟩ := hgb
    refine ⟨mp_C ca y * (mp_C ca c * g1), ?_, ⟨mp_C ca x * mp_C ca d1 * z1, ?_⟩, ⟨mp_C ca x * mp_C ca d2 * z2, ?_⟩⟩
    · rw [hx, mp_C_mulC HA]; grind
    · rw [ea, hd1, hz1, mp_C_mulC HA]; grind
    · rw [eb, hd2, hz2, mp_C_mulC HA]; grind
end
end
section
/-! there are such rings -/
theorem mr_conv_tl {R : Type} [Lean.Grind.CommRing R] (f g : Nat → R) (n : Nat) : mp_S (n + 2) (fun i => f i * g (n + 1 - i)) = f 0 * g (n + 1) + mp_S (n + 1) (fun i => f (i + 1) * g (n - i)) := by
  rw [mp_S_first]
  congr 1
  exact mp_S_cong (fun i hi => by rw [show n + 1 - (i + 1) = n - i by omega])
def mr_mul {R : Type} [Lean.Grind.CommRing R] (f g : Nat → R) : Nat → R := fun n => mp_S (n + 1) (fun i => f i * g (n - i))
theorem mr_mul_0 {R : Type} [Lean.Grind.CommRing R] (f g : Nat → R) : mr_mul f g 0 = f 0 * g 0 := by
  show mp_S 1 _ = _
  rw [mp_S_s, mp_S_0]
  simp
  grind
theorem mr_mul_s {R : Type} [Lean.Grind.CommRing R] (f g : Nat → R) (n : Nat) : mr_mul f g (n + 1) = f 0 * g (n + 1) + mr_mul (fun i => f (i + 1)) g n := mr_conv_tl f g n
theorem mr_mul_add {R : Type} [Lean.Grind.CommRing R] (f g h : Nat → R) (n : Nat) : mr_mul f (fun i => g i + h i) n = mr_mul f g n + mr_mul f h n := by
  show mp_S _ _ = mp_S _ _ + mp_S _ _
  rw [← mp_S_add]
  exact mp_S_cong (fun i _ => by grind)
theorem mr_add_mul {R : Type} [Lean.Grind.CommRing R] (f g h : Nat → R) (n : Nat) : mr_mul (fun i => f i + g i) h n = mr_mul f h n + mr_mul g h n := by
  show mp_S _ _ = mp_S _ _ + mp_S _ _
  rw [← mp_S_add]
  exact mp_S_cong (fun i _ => by grind)
theorem mr_comm {R : Type} [Lean.Grind.CommRing R] (f g : Nat → R) (n : Nat) : mr_mul f g n = mr_mul g f n := by
  show mp_S _ _ = mp_S _ _
  rw [mp_S_rev]
  exact mp_S_cong (fun i hi => by rw [show n + 1 - 1 - i = n - i by omega, show n - (n - i) = i by omega]; grind)
theorem mr_smul {R : Type} [Lean.Grind.CommRing R] (c : R) (f g : Nat → R) (n : Nat) : mr_mul (fun i => c * f i) g n = c * mr_mul f g n := by
  show mp_S _ _ = c * mp_S _ _
  rw [← mp_S_mul]
  exact mp_S_cong (fun i _ => by grind)
theorem mr_assoc {R : Type} [Lean.Grind.CommRing R] : ∀ (n : Nat) (f g h : Nat → R), mr_mul (mr_mul f g) h n = mr_mul f (mr_mul g h) n
  | 0, f, g, h => by rw [mr_mul_0, mr_mul_0, mr_mul_0, mr_mul_0]; grind
  | n + 1, f, g, h => by
    rw [mr_mul_s, mr_mul_s f, mr_mul_0, ← mr_assoc n]
    have e : (fun i => mr_mul f g (i + 1)) = fun i => (f 0 * g (i + 1)) + mr_mul (fun j => f (j + 1)) g i := funext (fun i => mr_mul_s f g i)
    rw [e, mr_add_mul, mr_smul, mr_mul_s g]
    grind
theorem mr_one {R : Type} [Lean.Grind.CommRing R] (f : Nat → R) (n : Nat) : mr_mul (fun i => if i = 0 then 1 else 0) f n = f n := by
  show mp_S _ _ = _
  rw [mp_S_one (k := 0) (by omega) (fun i _ hi => by dsimp only; rw [if_neg hi]; grind)]
  simp
  grind
theorem mr_bd {R : Type} [Lean.Grind.CommRing R] {f g : Nat → R} {M N : Nat} (hf : ∀ n, M ≤ n → f n = 0) (hg : ∀ n, N ≤ n → g n = 0) : ∀ n, M + N ≤ n → mr_mul f g n = 0 := by
  intro n hn
  refine mp_S_zero (fun i hi => ?_)
  by_cases h : M ≤ i
  · rw [hf i h]; grind
  · rw [hg (n - i) (by omega)]; grind
abbrev mr_T (R : Type) [Lean.Grind.CommRing R] : Type := { f : Nat → R // ∃ N, ∀ n, N ≤ n → f n = 0 }
def mr_c {R : Type} [Lean.Grind.CommRing R] (c : R) : mr_T R := ⟨fun n => if n = 0 then c else 0, 1, fun n hn => if_neg (by omega)⟩
def mr_a {R : Type} [Lean.Grind.CommRing R] (f g : mr_T R) : mr_T R := ⟨fun n => f.1 n + g.1 n, by
  obtain ⟨M, hM⟩ := f.2
  obtain ⟨N, hN⟩ := g.2
  exact ⟨M + N, fun n hn => by dsimp only; rw [hM n (by omega), hN n (by omega)]; grind⟩⟩
def mr_n {R : Type} [Lean.Grind.CommRing R] (f : mr_T R) : mr_T R := ⟨fun n => -f.1 n, by
  obtain ⟨M, hM⟩ := f.2
  exact ⟨M, fun n hn => by dsimp only; rw [hM n hn]; grind⟩⟩
def mr_m {R : Type} [Lean.Grind.CommRing R] (f g : mr_T R) : mr_T R := ⟨mr_mul f.1 g.1, by
  obtain ⟨M, hM⟩ := f.2
  obtain ⟨N, hN⟩ := g.2
  exact ⟨M + N, mr_bd hM hN⟩⟩
def mr_pow {R : Type} [Lean.Grind.CommRing R] (f : mr_T R) : Nat → mr_T R
  | 0 => mr_c (0 + 1)
  | n + 1 => mr_m (mr_pow f n) f
def mr_nR {R : Type} [Lean.Grind.CommRing R] : Nat → R
  | 0 => 0
  | n + 1 => mr_nR n + 1
def mr_iR {R : Type} [Lean.Grind.CommRing R] : Int → R
  | .ofNat n => mr_nR n
  | .negSucc n => -mr_nR (n + 1)
theorem mr_iR_neg {R : Type} [Lean.Grind.CommRing R] (i : Int) : mr_iR (R := R) (-i) = -mr_iR i := by
  cases i with
  | ofNat n =>
    cases n with
    | zero =>
      show (0 : R) = -0
      grind
    | succ n => rfl
  | negSucc n =>
    show mr_nR (n + 1) = - -mr_nR (n + 1)
    grind
theorem mr_ext {R : Type} [Lean.Grind.CommRing R] {f g : mr_T R} (h : ∀ n, f.1 n = g.1 n) : f = g := Subtype.ext (funext h)
theorem mr_c_mul {R : Type} [Lean.Grind.CommRing R] (c : R) (f : Nat → R) (n : Nat) : mr_mul (fun i => if i = 0 then c else 0) f n = c * f n := by
  show mp_S _ _ = _
  rw [mp_S_one (k := 0) (by omega) (fun i _ hi => by dsimp only; rw [if_neg hi]; grind)]
  simp
def mr_ring (R : Type) [Lean.Grind.CommRing R] : Lean.Grind.CommRing (mr_T R) where
  add := mr_a
  mul := mr_m
  neg := mr_n
  sub f g := mr_a f (mr_n g)
  natCast := ⟨fun n => mr_c (mr_nR n)⟩
  ofNat n := ⟨mr_c (mr_nR n)⟩
  intCast := ⟨fun n => mr_c (mr_iR n)⟩
  nsmul := ⟨fun n f => mr_m (mr_c (mr_nR n)) f⟩
  zsmul := ⟨fun n f => mr_m (mr_c (mr_iR n)) f⟩
  npow := ⟨mr_pow⟩
  add_zero f := mr_ext (fun n => by
    show f.1 n + (if n = 0 then (0 : R) else 0) = f.1 n
    split <;> grind)
  add_comm f g := mr_ext (fun n => by
    show f.1 n + g.1 n = g.1 n + f.1 n
    grind)
  add_assoc f g h := mr_ext (fun n => by
    show f.1 n + g.1 n + h.1 n = f.1 n + (g.1 n + h.1 n)
    grind)
  mul_assoc f g h := mr_ext (fun n => mr_assoc n f.1 g.1 h.1)
  mul_one f := mr_ext (fun n => by
    show mr_mul f.1 (fun i => if i = 0 then (0 + 1 : R) else 0) n = f.1 n
    rw [mr_comm, mr_c_mul]
    grind)
  one_mul f := mr_ext (fun n => by
    show mr_mul (fun i => if i = 0 then (0 + 1 : R) else 0) f.1 n = f.1 n
    rw [mr_c_mul]
    grind)
  left_distrib f g h := mr_ext (fun n => mr_mul_add f.1 g.1 h.1 n)
  right_distrib f g h := mr_ext (fun n => mr_add_mul f.1 g.1 h.1 n)
  zero_mul f := mr_ext (fun n => by
    show mr_mul (fun i => if i = 0 then (0 : R) else 0) f.1 n = if n = 0 then (0 : R) else 0
    rw [mr_c_mul]
    split <;> grind)
  mul_zero f := mr_ext (fun n => by
    show mr_mul f.1 (fun i => if i = 0 then (0 : R) else 0) n = if n = 0 then (0 : R) else 0
    rw [mr_comm, mr_c_mul]
    split <;> grind)
  pow_zero f := rfl
  pow_succ f n := rfl
  ofNat_succ a := mr_ext (fun n => by
    show (if n = 0 then mr_nR a + 1 else (0 : R)) = (if n = 0 then mr_nR a else 0) + (if n = 0 then (0 + 1 : R) else 0)
    split <;> grind)
  ofNat_eq_natCast a := rfl
  nsmul_eq_natCast_mul a f := rfl
  neg_add_cancel f := mr_ext (fun n => by
    show -f.1 n + f.1 n = if n = 0 then (0 : R) else 0
    split <;> grind)
  sub_eq_add_neg f g := rfl
  intCast_ofNat a := rfl
  intCast_neg a := mr_ext (fun n => by
    show (if n = 0 then mr_iR (-a) else (0 : R)) = -(if n = 0 then mr_iR a else 0)
    rw [mr_iR_neg]
    split <;> grind)
  neg_zsmul a f := mr_ext (fun n => by
    show mr_mul (fun i => if i = 0 then mr_iR (-a) else (0 : R)) f.1 n = -mr_mul (fun i => if i = 0 then mr_iR a else (0 : R)) f.1 n
    rw [mr_c_mul, mr_c_mul, mr_iR_neg]
    grind)
  zsmul_natCast_eq_nsmul a f := rfl
  mul_comm f g := mr_ext (fun n => mr_comm f.1 g.1 n)
theorem mr_ex (R : Type) [Lean.Grind.CommRing R] : ∃ (A : Type) (_ : Lean.Grind.CommRing A) (cf : A → Nat → R), mp_P cf := by
  refine ⟨mr_T R, mr_ring R, fun f => f.1, ?_⟩
  refine ⟨fun a b h => mr_ext h, fun a b n => rfl, fun a b n => rfl, fun a => a.2, fun g N hg => ⟨⟨g, N, hg⟩, fun _ => rfl⟩, fun n => ?_⟩
  show (if n = 0 then (0 + 1 : R) else 0) = if n = 0 then 1 else 0
  split <;> grind
end
section
/-! derivations; a polynomial without squares, its special part -/
section
variable {R A : Type}
noncomputable def md_d [Lean.Grind.CommRing R] [Lean.Grind.CommRing A] (cf : A → Nat → R) (a : A) : A := mp_mk cf (fun n => mr_nR (n + 1) * cf a (n + 1))
theorem md_cf [Lean.Grind.CommRing R] [Lean.Grind.CommRing A] {cf : A → Nat → R} (H : mp_P cf) (a : A) (n : Nat) : cf (md_d cf a) n = mr_nR (n + 1) * cf a (n + 1) := by
  obtain ⟨N, hN⟩ := H.2.2.2.1 a
  exact mp_mk_cf H N (fun n hn => by rw [hN _ (by omega)]; grind) n
theorem mr_nR_add [Lean.Grind.CommRing R] (m : Nat) : ∀ n, mr_nR (R := R) (m + n) = mr_nR m + mr_nR n
  | 0 => by show mr_nR m = mr_nR m + 0; grind
  | n + 1 => by show mr_nR (m + n) + 1 = mr_nR m + (mr_nR n + 1); rw [mr_nR_add m n]; grind
theorem mr_nR_FP : ∀ n, mr_nR (R := FP) n = mf_n n
  | 0 => rfl
  | n + 1 => by show mr_nR n + 1 = mf_n (n + 1); rw [mr_nR_FP n, mf_n_add]; rfl
theorem mr_nR_C [Lean.Grind.CommRing R] [Lean.Grind.CommRing A] {cf : A → Nat → R} (H : mp_P cf) : ∀ n, mr_nR (R := A) n = mp_C cf (mr_nR n)
  | 0 => (mp_C_0 H).symm
  | n + 1 => by show mr_nR n + 1 = mp_C cf (mr_nR n + 1); rw [mr_nR_C H n, mp_C_add H, mp_C_1 H]
theorem md_add [Lean.Grind.CommRing R] [Lean.Grind.CommRing A] {cf : A → Nat → R} (H : mp_P cf) (a b : A) : md_d cf (a + b) = md_d cf a + md_d cf b := mp_ext H (fun n => by rw [mp_add H, md_cf H, md_cf H, md_cf H, mp_add H]; grind)
theorem md_mul [Lean.Grind.CommRing R] [Lean.Grind.CommRing A] {cf : A → Nat → R} (H : mp_P cf) (a b : A) : md_d cf (a * b) = md_d cf a * b + a * md_d cf b := mp_ext H (fun n => by
  rw [mp_add H, md_cf H, mp_mul H, mp_mul H, mp_mul H, ← mp_S_mul]
  have e1 : mp_S (n + 1 + 1) (fun i => mr_nR (n + 1) * (cf a i * cf b (n + 1 - i))) = mp_S (n + 1 + 1) (fun i => mr_nR i * cf a i * cf b (n + 1 - i)) + mp_S (n + 1 + 1) (fun i => cf a i * (mr_nR (n + 1 - i) * cf b (n + 1 - i))) := by
    rw [← mp_S_add]
    refine mp_S_cong (fun i hi => ?_)
    have h : mr_nR (R := R) (n + 1) = mr_nR i + mr_nR (n + 1 - i) := by rw [← mr_nR_add, show i + (n + 1 - i) = n + 1 by omega]
    rw [h]
    grind
  rw [e1, mp_S_first (fun i => mr_nR i * cf a i * cf b (n + 1 - i)), mp_S_s (n + 1) (fun i => cf a i * (mr_nR (n + 1 - i) * cf b (n + 1 - i)))]
  have e2 : mp_S (n + 1) (fun i => mr_nR (i + 1) * cf a (i + 1) * cf b (n + 1 - (i + 1))) = mp_S (n + 1) (fun i => cf (md_d cf a) i * cf b (n - i)) := mp_S_cong (fun i hi => by rw [md_cf H, show n + 1 - (i + 1) = n - i by omega])
  have e3 : mp_S (n + 1) (fun i => cf a i * (mr_nR (n + 1 - i) * cf b (n + 1 - i))) = mp_S (n + 1) (fun i => cf a i * cf (md_d cf b) (n - i)) := mp_S_cong (fun i hi => by rw [md_cf H, show n - i + 1 = n + 1 - i by omega])
  rw [e2, e3, show n + 1 - (n + 1) = 0 by omega]
  have e4 : mr_nR (R := R) 0 = 0 := rfl
  rw [e4]
  grind)
theorem md_C [Lean.Grind.CommRing R] [Lean.Grind.CommRing A] {cf : A → Nat → R} (H : mp_P cf) (r : R) : md_d cf (mp_C cf r) = 0 := mp_ext H (fun n => by rw [md_cf H, mp_C_cf H, mp_zero H, if_neg (by omega)]; grind)
theorem md_0 [Lean.Grind.CommRing R] [Lean.Grind.CommRing A] {cf : A → Nat → R} (H : mp_P cf) : md_d cf 0 = 0 := by
  have h := md_C H 0
  rw [mp_C_0 H] at h
  exact h
theorem md_sz [Lean.Grind.CommRing R] [Lean.Grind.CommRing A] {cf : A → Nat → R} (H : mp_P cf) {a : A} {n : Nat} (h : mp_sz cf a ≤ n + 1) : mp_sz cf (md_d cf a) ≤ n := mp_sz_le H (fun j hj => by rw [md_cf H, mp_sz_out H (by omega)]; grind)
theorem md_S [Lean.Grind.CommRing R] [Lean.Grind.CommRing A] {cf : A → Nat → R} (H : mp_P cf) (f : Nat → A) : ∀ n, md_d cf (mp_S n f) = mp_S n (fun i => md_d cf (f i))
  | 0 => md_0 H
  | n + 1 => by rw [mp_S_s, mp_S_s, md_add H, md_S H f n]
end
section
variable {U A : Type}
/-- the derivation by x of a polynomial in both -/
noncomputable def md_x [Lean.Grind.CommRing U] [Lean.Grind.CommRing A] (cu : U → Nat → FP) (ca : A → Nat → U) (a : A) : A := mp_mk ca (fun n => md_d cu (ca a n))
theorem md_x_cf [Lean.Grind.CommRing U] [Lean.Grind.CommRing A] {cu : U → Nat → FP} {ca : A → Nat → U} (HU : mp_P cu) (HA : mp_P ca) (a : A) (n : Nat) : ca (md_x cu ca a) n = md_d cu (ca a n) := by
  obtain ⟨N, hN⟩ := HA.2.2.2.1 a
  exact mp_mk_cf HA N (fun n hn => by rw [hN n hn, md_0 HU]) n
theorem md_x_mul [Lean.Grind.CommRing U] [Lean.Grind.CommRing A] {cu : U → Nat → FP} {ca : A → Nat → U} (HU : mp_P cu) (HA : mp_P ca) (a b : A) : md_x cu ca (a * b) = md_x cu ca a * b + a * md_x cu ca b := mp_ext HA (fun n => by
  rw [mp_add HA, md_x_cf HU HA, mp_mul HA, mp_mul HA, mp_mul HA, md_S HU, ← mp_S_add]
  exact mp_S_cong (fun i _ => by rw [md_mul HU, md_x_cf HU HA, md_x_cf HU HA]))
/-- the derivation, times what is below in that of t -/
noncomputable def md_E [Lean.Grind.CommRing U] [Lean.Grind.CommRing A] (cu : U → Nat → FP) (ca : A → Nat → U) (sB : U) (W : A) (a : A) : A := mp_C ca sB * md_x cu ca a + W * md_d ca a
theorem md_E_mul [Lean.Grind.CommRing U] [Lean.Grind.CommRing A] {cu : U → Nat → FP} {ca : A → Nat → U} (HU : mp_P cu) (HA : mp_P ca) (sB : U) (W a b : A) : md_E cu ca sB W (a * b) = md_E cu ca sB W a * b + a * md_E cu ca sB W b := by
  rw [md_E, md_E, md_E, md_x_mul HU HA, md_mul HA]
  grind
/-- what is left of a when the divisor that it shares with its derivation by t is taken out has no squares -/
theorem md_free [Lean.Grind.CommRing U] [Lean.Grind.CommRing A] {cu : U → Nat → FP} {ca : A → Nat → U} (HU : mp_P cu) (HA : mp_P ca) {p d : A} (hp0 : p ≠ 0) (hd : mp_Pr d) (hd2 : mp_D (d * d) p) : ∀ (n : Nat) (g Y : A), mp_mu cu ca g ≤ n → g ≠ 0 → md_d ca g * p = g * Y → ¬ mp_D d Y → False := by
  have hAd := mp_dom HA (mp_dom HU (mp_Fd_nz mp_FP))
  intro n
  induction n with
  | zero => intro g Y h1 h2; have := mp_mu_2 HU HA h2; omega
  | succ n ih =>
    intro g Y h1 h2 h3 h4
    obtain ⟨p1, hp1⟩ := hd2
    have h5 : mp_D d (g * Y) := by rw [← h3, hp1]; exact ⟨md_d ca g * d * p1, by clear ih; grind⟩
    rcases hd.2.2 _ _ h5 with h6 | h6
    · obtain ⟨g2, hg2⟩ := h6
      have hg20 : g2 ≠ 0 := fun e => h2 (by rw [hg2, e]; clear ih; grind)
      have hmu := mp_mu_mul mp_FP HU HA hd.1 hg20
      rw [← hg2] at hmu
      have hmd : mp_mu cu ca d ≠ 2 := fun e => by
        obtain ⟨r, hr, hr2⟩ := mp_mu_U mp_FP HU HA hd.1 e
        exact hd.2.1 (by rw [hr2]; exact mp_CC_U mp_FP HU HA hr)
      have hm2 := mp_mu_2 HU HA hd.1
      have hm3 := mp_mu_2 HU HA hg20
      refine ih g2 (Y - md_d ca d * d * p1) (by omega) hg20 (mp_cancel hAd hd.1 ?_) (fun e => h4 ?_)
      · rw [hg2, md_mul HA] at h3
        clear ih
        grind
      · have := mp_D_add e (⟨md_d ca d * p1, by clear ih; grind⟩ : mp_D d (md_d ca d * d * p1))
        rw [show Y - md_d ca d * d * p1 + md_d ca d * d * p1 = Y by clear ih; grind] at this
        exact this
    · exact h4 h6
theorem md_prim [Lean.Grind.CommRing U] [Lean.Grind.CommRing A] {cu : U → Nat → FP} {ca : A → Nat → U} (HU : mp_P cu) (HA : mp_P ca) {p : A} {x : U} (hp0 : p ≠ 0) (hd : mp_Pr (mp_C ca x)) (hd2 : mp_D (mp_C ca x) p) : ∀ (n : Nat) (g Y : A), mp_mu cu ca g ≤ n → g ≠ 0 → md_d ca g * p = g * Y → ¬ mp_D (mp_C ca x) Y → False := by
  have hAd := mp_dom HA (mp_dom HU (mp_Fd_nz mp_FP))
  intro n
  induction n with
  | zero => intro g Y h1 h2; have := mp_mu_2 HU HA h2; omega
  | succ n ih =>
    intro g Y h1 h2 h3 h4
    have h5 : mp_D (mp_C ca x) (g * Y) := by rw [← h3]; exact mp_D_mul' hd2 _
    rcases hd.2.2 _ _ h5 with h6 | h6
    · obtain ⟨g2, hg2⟩ := h6
      have hg20 : g2 ≠ 0 := fun e => h2 (by rw [hg2, e]; clear ih; grind)
      have hmu := mp_mu_mul mp_FP HU HA hd.1 hg20
      rw [← hg2] at hmu
      have hmd : mp_mu cu ca (mp_C ca x) ≠ 2 := fun e => by
        obtain ⟨r, hr, hr2⟩ := mp_mu_U mp_FP HU HA hd.1 e
        exact hd.2.1 (by rw [hr2]; exact mp_CC_U mp_FP HU HA hr)
      have hm2 := mp_mu_2 HU HA hd.1
      have hm3 := mp_mu_2 HU HA hg20
      refine ih g2 Y (by omega) hg20 (mp_cancel hAd hd.1 ?_) h4
      rw [hg2, md_mul HA, md_C HA] at h3
      clear ih
      grind
    · exact h4 h6
/-- both, of a = g p, its derivation by t = g w, where only units divide p and w -/
theorem md_bare [Lean.Grind.CommRing U] [Lean.Grind.CommRing A] {cu : U → Nat → FP} {ca : A → Nat → U} (HU : mp_P cu) (HA : mp_P ca) {a g p w : A} (ha : a ≠ 0) (e1 : a = g * p) (e2 : md_d ca a = g * w) (hc : mp_Cp p w) : (∀ d, mp_Pr d → ¬ mp_D (d * d) p) ∧ ∀ x : U, mp_D (mp_C ca x) p → mp_U x := by
  have hF := mp_FP
  have hU := mp_dom HU (mp_Fd_nz hF)
  have hg0 : g ≠ 0 := fun e => ha (by rw [e1, e]; grind)
  have hp0 : p ≠ 0 := fun e => ha (by rw [e1, e]; grind)
  have key : md_d ca g * p = g * (w - md_d ca p) := by
    rw [e1, md_mul HA] at e2
    grind
  have prim : ∀ x : U, mp_Irr x → ¬ mp_D (mp_C ca x) p := by
    intro x hx h
    have hx2 := mp_prF HU hF hx
    have hpr : mp_Pr (mp_C ca x) := ⟨mp_C_ne HA hx.1, fun hu => by
      obtain ⟨y, hy⟩ := hu
      have h1 := congrArg (fun z => ca z 0) hy
      simp only [mp_C_mul HA, mp_one HA, if_true] at h1
      exact hx.2.1 ⟨_, h1⟩, fun f g' h => mp_gauss HA hx2.2.2 h⟩
    refine md_prim HU HA hp0 hpr h _ g (w - md_d ca p) (Nat.le_refl _) hg0 key (fun e => hpr.2.1 (hc _ h ?_))
    obtain ⟨p1, hp1⟩ := h
    have h2 : mp_D (mp_C ca x) (md_d ca p) := ⟨md_d ca p1, by rw [hp1, md_mul HA, md_C HA]; grind⟩
    have := mp_D_add e h2
    rw [show w - md_d ca p + md_d ca p = w by grind] at this
    exact this
  refine ⟨fun d hd h => ?_, fun x h => ?_⟩
  · refine md_free HU HA hp0 hd h _ g (w - md_d ca p) (Nat.le_refl _) hg0 key (fun e => hd.2.1 (hc d (mp_D_tr ⟨d, rfl⟩ h) ?_))
    obtain ⟨p1, hp1⟩ := h
    have h2 : mp_D d (md_d ca p) := ⟨md_d ca d * p1 + md_d ca d * p1 + d * md_d ca p1, by rw [hp1, md_mul HA, md_mul HA]; grind⟩
    have := mp_D_add e h2
    rw [show w - md_d ca p + md_d ca p = w by grind] at this
    exact this
  · have hx0 : x ≠ 0 := fun e => by
      obtain ⟨y, hy⟩ := h
      exact hp0 (by rw [hy, e, mp_C_0 HA]; grind)
    have := mp_sz_pos HU hx0
    rcases Nat.lt_or_ge (mp_sz cu x) 2 with q | q
    · exact mp_U_F HU hF (by omega)
    · obtain ⟨y, hy1, z, hz⟩ := mp_irr_ex HU hF _ x (Nat.le_refl _) q
      exact absurd (mp_D_tr ⟨mp_C ca z, by rw [hz, mp_C_mulC HA]⟩ h) (prim y hy1)
end
end
section
/-! the special part: t alone, of an exponential; nothing, of a logarithm -/
section
variable {U A : Type}
theorem me_n_ne [Lean.Grind.CommRing U] {cu : U → Nat → FP} (HU : mp_P cu) {n : Nat} (h0 : 0 < n) (h : n < 32003) : mp_U (mr_nR (R := U) n) := by
  rw [mr_nR_C HU, mr_nR_FP]
  exact mp_U_C HU (mp_FP.1 _ (mf_n_ne h0 h))
theorem me_pr_U [Lean.Grind.CommRing U] {x y : U} (hx : mp_Pr x) (h : mp_U y) : ¬ mp_D x y := fun q => hx.2.1 (mp_U_of_D q h)
/-- a prime doesn't divide its derivation -/
theorem me_pr_d [Lean.Grind.CommRing U] {cu : U → Nat → FP} (HU : mp_P cu) {x : U} (hx : mp_Pr x) (hs : mp_sz cu x ≤ 32003) : ¬ mp_D x (md_d cu x) := by
  intro h
  have hR := mp_Fd_nz mp_FP
  have h0 := mp_sz_pos HU hx.1
  have h2 : 2 ≤ mp_sz cu x := by
    rcases Nat.lt_or_ge (mp_sz cu x) 2 with q | q
    · exact absurd (mp_U_F HU mp_FP (by omega)) hx.2.1
    · exact q
  obtain ⟨m, hm⟩ : ∃ m, mp_sz cu x = m + 2 := ⟨mp_sz cu x - 2, by omega⟩
  have h3 : cu (md_d cu x) m ≠ 0 := by
    rw [md_cf HU, mr_nR_FP]
    exact mp_nz_mul hR (mf_n_ne (by omega) (by omega)) (mp_sz_top HU hm)
  have h4 : md_d cu x ≠ 0 := fun e => h3 (by rw [e, mp_zero HU])
  have h5 := mp_D_sz HU hR h h4
  have h6 := md_sz HU (a := x) (n := m + 1) (by omega)
  omega
/-- what a prime's power does in a derivation -/
theorem me_val [Lean.Grind.CommRing U] {cu : U → Nat → FP} (HU : mp_P cu) {x : U} (hx : mp_Pr x) : ∀ (n : Nat) (y : U), mp_sz cu y ≤ n → y ≠ 0 → ∃ (s : Nat) (z : U), ¬ mp_D x z ∧ s < mp_sz cu y ∧ (mp_D x y → 0 < s) ∧ md_d cu y * x * z = y * (mr_nR s * md_d cu x * z + x * md_d cu z) := by
  have hR := mp_Fd_nz mp_FP
  intro n
  induction n with
  | zero => intro y h1 h2; have := mp_sz_pos HU h2; omega
  | succ n ih =>
    intro y h1 h2
    by_cases hd : mp_D x y
    · obtain ⟨w, hw⟩ := hd
      have hw0 : w ≠ 0 := fun e => h2 (by rw [hw, e]; clear ih; grind)
      have hs := mp_sz_mul HU hR hx.1 hw0
      rw [← hw] at hs
      have hx2 : 2 ≤ mp_sz cu x := by
        rcases Nat.lt_or_ge (mp_sz cu x) 2 with q | q
        · have := mp_sz_pos HU hx.1
          exact absurd (mp_U_F HU mp_FP (by omega)) hx.2.1
        · exact q
      obtain ⟨s, z, h3, h4, -, h5⟩ := ih w (by omega) hw0
      refine ⟨s + 1, z, h3, by omega, fun _ => by omega, ?_⟩
      rw [hw, md_mul HU, show mr_nR (R := U) (s + 1) = mr_nR s + 1 from rfl]
      clear ih
      grind
    · refine ⟨0, y, hd, mp_sz_pos HU h2, fun q => absurd q hd, ?_⟩
      rw [show mr_nR (R := U) 0 = 0 from rfl]
      clear ih
      grind
theorem me_nD [Lean.Grind.CommRing U] {x y z : U} (hx : mp_Pr x) (hy : ¬ mp_D x y) (hz : ¬ mp_D x z) : ¬ mp_D x (y * z) := fun h => (hx.2.2 _ _ h).elim hy hz
/-- exponential: no prime divides y -/
theorem me_exp0 [Lean.Grind.CommRing U] {cu : U → Nat → FP} (HU : mp_P cu) {x u v y z k : U} (hx : mp_Pr x) (hs : mp_sz cu x ≤ 32003) (hv0 : v ≠ 0) (hy0 : y ≠ 0) (hvs : mp_sz cu v ≤ 32003) (hys : mp_sz cu y ≤ 32003) (huv : mp_Cp u v) (hyz : mp_Cp y z) (hk : mp_U k) (e : v * v * (md_d cu y * z - md_d cu z * y) = k * (md_d cu u * v - u * md_d cu v) * (y * z)) (h : mp_D x y) : False := by
  have hU := mp_dom HU (mp_Fd_nz mp_FP)
  have hxd := me_pr_d HU hx hs
  obtain ⟨s, y2, h1, h2, h3, h4⟩ := me_val HU hx _ y (Nat.le_refl _) hy0
  have hs0 := h3 h
  have hsU := me_n_ne HU hs0 (by omega)
  have hxz : ¬ mp_D x z := fun q => hx.2.1 (hyz x h q)
  have e2 : v * v * ((mr_nR s * md_d cu x * y2 + x * md_d cu y2) * z - x * y2 * md_d cu z) = k * (md_d cu u * v - u * md_d cu v) * z * (x * y2) := by
    apply mp_cancel hU hy0
    have : y * (v * v * ((mr_nR s * md_d cu x * y2 + x * md_d cu y2) * z - x * y2 * md_d cu z)) = v * v * (md_d cu y * x * y2 * z - y * x * y2 * md_d cu z) := by rw [h4]; grind
    rw [this, show md_d cu y * x * y2 * z - y * x * y2 * md_d cu z = (md_d cu y * z - md_d cu z * y) * (x * y2) by grind]
    grind
  have hN : ¬ mp_D x (mr_nR s * md_d cu x * y2 * z) := me_nD hx (me_nD hx (me_nD hx (me_pr_U hx hsU) hxd) h1) hxz
  have hxv : mp_D x v := by
    refine Classical.byContradiction (fun q => me_nD hx (me_nD hx q q) hN ?_)
    have h5 : mp_D x (v * v * ((mr_nR s * md_d cu x * y2 + x * md_d cu y2) * z - x * y2 * md_d cu z)) := by
      rw [e2]
      exact ⟨k * (md_d cu u * v - u * md_d cu v) * z * y2, by grind⟩
    have h6 := mp_D_sub h5 (⟨v * v * (md_d cu y2 * z - y2 * md_d cu z), rfl⟩ : mp_D x (x * (v * v * (md_d cu y2 * z - y2 * md_d cu z))))
    rw [show v * v * ((mr_nR s * md_d cu x * y2 + x * md_d cu y2) * z - x * y2 * md_d cu z) - x * (v * v * (md_d cu y2 * z - y2 * md_d cu z)) = v * v * (mr_nR s * md_d cu x * y2 * z) by grind] at h6
    exact h6
  have hxu : ¬ mp_D x u := fun q => hx.2.1 (huv x q hxv)
  obtain ⟨f, v2, g1, g2, g3, g4⟩ := me_val HU hx _ v (Nat.le_refl _) hv0
  have hfU := me_n_ne HU (g3 hxv) (by omega)
  have e3 : v2 * v * ((mr_nR s * md_d cu x * y2 + x * md_d cu y2) * z - x * y2 * md_d cu z) = k * (md_d cu u * x * v2 - u * (mr_nR f * md_d cu x * v2 + x * md_d cu v2)) * z * y2 := by
    apply mp_cancel hU (mp_nz_mul hU hv0 hx.1)
    have : v * x * (k * (md_d cu u * x * v2 - u * (mr_nR f * md_d cu x * v2 + x * md_d cu v2)) * z * y2) = x * k * (md_d cu u * v * x * v2 - u * (md_d cu v * x * v2)) * z * y2 := by rw [g4]; grind
    rw [this]
    grind
  have h7 : mp_D x (k * (md_d cu u * x * v2 - u * (mr_nR f * md_d cu x * v2 + x * md_d cu v2)) * z * y2) := by
    rw [← e3]
    obtain ⟨w, hw⟩ := hxv
    exact ⟨v2 * w * ((mr_nR s * md_d cu x * y2 + x * md_d cu y2) * z - x * y2 * md_d cu z), by grind⟩
  have h8 := mp_D_sub (⟨k * (md_d cu u * v2 - u * md_d cu v2) * z * y2, rfl⟩ : mp_D x (x * (k * (md_d cu u * v2 - u * md_d cu v2) * z * y2))) h7
  rw [show x * (k * (md_d cu u * v2 - u * md_d cu v2) * z * y2) - k * (md_d cu u * x * v2 - u * (mr_nR f * md_d cu x * v2 + x * md_d cu v2)) * z * y2 = k * u * mr_nR f * md_d cu x * v2 * z * y2 by grind] at h8
  exact me_nD hx (me_nD hx (me_nD hx (me_nD hx (me_nD hx (me_nD hx (me_pr_U hx hk) hxu) (me_pr_U hx hfU)) hxd) g1) hxz) h1 h8
/-- a polynomial that no prime divides is a number -/
theorem me_const [Lean.Grind.CommRing U] {cu : U → Nat → FP} (HU : mp_P cu) {y : U} (hy0 : y ≠ 0) (hys : mp_sz cu y ≤ 32003) (h : ∀ x, mp_Pr x → mp_sz cu x ≤ 32003 → mp_D x y → False) : mp_sz cu y = 1 := by
  have := mp_sz_pos HU hy0
  rcases Nat.lt_or_ge (mp_sz cu y) 2 with q | q
  · omega
  · obtain ⟨x, hx1, hx2⟩ := mp_irr_ex HU mp_FP _ y (Nat.le_refl _) q
    have := mp_D_sz HU (mp_Fd_nz mp_FP) hx2 hy0
    exact absurd hx2 (fun q => h x (mp_prF HU mp_FP hx1) (by omega) q)
theorem me_d_const [Lean.Grind.CommRing U] {cu : U → Nat → FP} (HU : mp_P cu) {y : U} (h : mp_sz cu y ≤ 1) : md_d cu y = 0 := by
  rw [mp_sz_1 HU h, md_C HU]
/-- two numbers in lowest terms -/
theorem me_low [Lean.Grind.CommRing U] {cu : U → Nat → FP} (HU : mp_P cu) (y : U) {z : U} (hz : z ≠ 0) : ∃ g y1 z1, g ≠ 0 ∧ y = g * y1 ∧ z = g * z1 ∧ mp_Cp y1 z1 := by
  have hU := mp_dom HU (mp_Fd_nz mp_FP)
  obtain ⟨g, a, b, h1, ⟨y1, h2⟩, ⟨z1, h3⟩⟩ := mp_bez HU mp_FP _ y z (Nat.le_refl _)
  have hg0 : g ≠ 0 := fun e => hz (by rw [h3, e]; grind)
  refine ⟨g, y1, z1, hg0, h2, h3, ?_⟩
  rintro d ⟨p, hp⟩ ⟨q, hq⟩
  refine ⟨a * p + b * q, mp_cancel hU hg0 ?_⟩
  grind
theorem me_exp [Lean.Grind.CommRing U] {cu : U → Nat → FP} (HU : mp_P cu) {u v y z k : U} (hv0 : v ≠ 0) (hy0 : y ≠ 0) (hz0 : z ≠ 0) (hvs : mp_sz cu v ≤ 32003) (hys : mp_sz cu y ≤ 32003) (hzs : mp_sz cu z ≤ 32003) (huv : mp_Cp u v) (hk : mp_U k) (hne : md_d cu u * v - u * md_d cu v ≠ 0) (e : v * v * (md_d cu y * z - md_d cu z * y) = k * (md_d cu u * v - u * md_d cu v) * (y * z)) : False := by
  have hR := mp_Fd_nz mp_FP
  have hU := mp_dom HU hR
  obtain ⟨g, y1, z1, hg0, rfl, rfl, hc⟩ := me_low HU y hz0
  have hy10 : y1 ≠ 0 := fun q => hy0 (by rw [q]; grind)
  have hz10 : z1 ≠ 0 := fun q => hz0 (by rw [q]; grind)
  have hk0 : k ≠ 0 := fun q => by obtain ⟨c, hc⟩ := hk; exact hU.2 (by rw [← hc, q]; grind)
  have hys1 := mp_D_sz HU hR (⟨g, by grind⟩ : mp_D y1 (g * y1)) hy0
  have hzs1 := mp_D_sz HU hR (⟨g, by grind⟩ : mp_D z1 (g * z1)) hz0
  have e2 : v * v * (md_d cu y1 * z1 - md_d cu z1 * y1) = k * (md_d cu u * v - u * md_d cu v) * (y1 * z1) := by
    apply mp_cancel hU (mp_nz_mul hU hg0 hg0)
    rw [md_mul HU, md_mul HU] at e
    grind
  have c1 := me_const HU hy10 (by omega) (fun x hx hs hd => me_exp0 HU hx hs hv0 hy10 hvs (by omega) huv hc hk e2 hd)
  have hk2 : mp_U (-k) := by obtain ⟨c, hc⟩ := hk; exact ⟨-c, by grind⟩
  have c2 := me_const HU hz10 (by omega) (fun x hx hs hd => me_exp0 HU hx hs hv0 hz10 hvs (by omega) huv (mp_cp_sym hc) hk2 (show v * v * (md_d cu z1 * y1 - md_d cu y1 * z1) = -k * (md_d cu u * v - u * md_d cu v) * (z1 * y1) by grind) hd)
  rw [me_d_const HU (Nat.le_of_eq c1), me_d_const HU (Nat.le_of_eq c2)] at e2
  have h9 := mp_nz_mul hU (mp_nz_mul hU hk0 hne) (mp_nz_mul hU hy10 hz10)
  exact h9 (by rw [← e2]; grind)
/-- logarithm: no prime divides v -/
theorem me_log0 [Lean.Grind.CommRing U] {cu : U → Nat → FP} (HU : mp_P cu) {x u v y z k : U} (hx : mp_Pr x) (hs : mp_sz cu x ≤ 32003) (hv0 : v ≠ 0) (hz0 : z ≠ 0) (hvs : mp_sz cu v ≤ 32003) (hzs : mp_sz cu z ≤ 32003) (huv : mp_Cp u v) (hyz : mp_Cp y z) (hk : mp_U k) (e : u * v * (md_d cu y * z - md_d cu z * y) = k * (md_d cu u * v - u * md_d cu v) * (z * z)) (hxv : mp_D x v) : False := by
  have hU := mp_dom HU (mp_Fd_nz mp_FP)
  have hxd := me_pr_d HU hx hs
  have hxu : ¬ mp_D x u := fun q => hx.2.1 (huv x q hxv)
  obtain ⟨f, v2, g1, g2, g3, g4⟩ := me_val HU hx _ v (Nat.le_refl _) hv0
  have hfU := me_n_ne HU (g3 hxv) (by omega)
  have e2 : x * v2 * u * (md_d cu y * z - md_d cu z * y) = k * (md_d cu u * x * v2 - u * (mr_nR f * md_d cu x * v2 + x * md_d cu v2)) * (z * z) := by
    apply mp_cancel hU hv0
    have : v * (k * (md_d cu u * x * v2 - u * (mr_nR f * md_d cu x * v2 + x * md_d cu v2)) * (z * z)) = k * (md_d cu u * v * x * v2 - u * (md_d cu v * x * v2)) * (z * z) := by rw [g4]; grind
    rw [this]
    grind
  have hM : ¬ mp_D x (k * u * mr_nR f * md_d cu x * v2) := me_nD hx (me_nD hx (me_nD hx (me_nD hx (me_pr_U hx hk) hxu) (me_pr_U hx hfU)) hxd) g1
  have hxz : mp_D x z := by
    refine Classical.byContradiction (fun q => me_nD hx hM (me_nD hx q q) ?_)
    have h1 : mp_D x (x * (k * (md_d cu u * v2 - u * md_d cu v2) * (z * z) - v2 * u * (md_d cu y * z - md_d cu z * y))) := ⟨_, rfl⟩
    rw [show x * (k * (md_d cu u * v2 - u * md_d cu v2) * (z * z) - v2 * u * (md_d cu y * z - md_d cu z * y)) = k * u * mr_nR f * md_d cu x * v2 * (z * z) by grind] at h1
    exact h1
  have hxy : ¬ mp_D x y := fun q => hx.2.1 (hyz x q hxz)
  obtain ⟨s, z2, h1, h2, h3, h4⟩ := me_val HU hx _ z (Nat.le_refl _) hz0
  have hsU := me_n_ne HU (h3 hxz) (by omega)
  have e3 : v2 * u * (md_d cu y * x * z2 - (mr_nR s * md_d cu x * z2 + x * md_d cu z2) * y) = k * (md_d cu u * x * v2 - u * (mr_nR f * md_d cu x * v2 + x * md_d cu v2)) * (z * z2) := by
    apply mp_cancel hU (mp_nz_mul hU hz0 hx.1)
    have : z * x * (v2 * u * (md_d cu y * x * z2 - (mr_nR s * md_d cu x * z2 + x * md_d cu z2) * y)) = x * v2 * u * (md_d cu y * z * x * z2 - (md_d cu z * x * z2) * y) := by rw [h4]; grind
    rw [this]
    grind
  have h5 : mp_D x (v2 * u * (md_d cu y * x * z2 - (mr_nR s * md_d cu x * z2 + x * md_d cu z2) * y)) := by
    rw [e3]
    obtain ⟨w, hw⟩ := hxz
    exact ⟨k * (md_d cu u * x * v2 - u * (mr_nR f * md_d cu x * v2 + x * md_d cu v2)) * (w * z2), by grind⟩
  have h6 := mp_D_sub (⟨v2 * u * (md_d cu y * z2 - md_d cu z2 * y), rfl⟩ : mp_D x (x * (v2 * u * (md_d cu y * z2 - md_d cu z2 * y)))) h5
  rw [show x * (v2 * u * (md_d cu y * z2 - md_d cu z2 * y)) - v2 * u * (md_d cu y * x * z2 - (mr_nR s * md_d cu x * z2 + x * md_d cu z2) * y) = v2 * u * mr_nR s * md_d cu x * z2 * y by grind] at h6
  exact me_nD hx (me_nD hx (me_nD hx (me_nD hx (me_nD hx g1 hxu) (me_pr_U hx hsU)) hxd) h1) hxy h6
theorem me_log [Lean.Grind.CommRing U] {cu : U → Nat → FP} (HU : mp_P cu) {u v y z k : U} (hu0 : u ≠ 0) (hv0 : v ≠ 0) (hz0 : z ≠ 0) (hus : mp_sz cu u ≤ 32003) (hvs : mp_sz cu v ≤ 32003) (hzs : mp_sz cu z ≤ 32003) (huv : mp_Cp u v) (hk : mp_U k) (hne : md_d cu u * v - u * md_d cu v ≠ 0) (e : u * v * (md_d cu y * z - md_d cu z * y) = k * (md_d cu u * v - u * md_d cu v) * (z * z)) : False := by
  have hR := mp_Fd_nz mp_FP
  have hU := mp_dom HU hR
  obtain ⟨g, y1, z1, hg0, rfl, rfl, hc⟩ := me_low HU y hz0
  have hz10 : z1 ≠ 0 := fun q => hz0 (by rw [q]; grind)
  have hzs1 := mp_D_sz HU hR (⟨g, by grind⟩ : mp_D z1 (g * z1)) hz0
  have e2 : u * v * (md_d cu y1 * z1 - md_d cu z1 * y1) = k * (md_d cu u * v - u * md_d cu v) * (z1 * z1) := by
    apply mp_cancel hU (mp_nz_mul hU hg0 hg0)
    rw [md_mul HU, md_mul HU] at e
    grind
  have c1 := me_const HU hv0 hvs (fun x hx hs hd => me_log0 HU hx hs hv0 hz10 hvs (by omega) huv hc hk e2 hd)
  have hk2 : mp_U (-k) := by obtain ⟨c, hc⟩ := hk; exact ⟨-c, by grind⟩
  have c2 := me_const HU hu0 hus (fun x hx hs hd => me_log0 HU hx hs hu0 hz10 hus (by omega) (mp_cp_sym huv) hc hk2 (show v * u * (md_d cu y1 * z1 - md_d cu z1 * y1) = -k * (md_d cu v * u - v * md_d cu u) * (z1 * z1) by grind) hd)
  rw [me_d_const HU (Nat.le_of_eq c1), me_d_const HU (Nat.le_of_eq c2)] at hne
  exact hne (by grind)
end
end
section
/-! the special part, whole -/
section
variable {U A : Type}
noncomputable def ms_t [Lean.Grind.CommRing U] [Lean.Grind.CommRing A] (ca : A → Nat → U) : A := mp_m ca 1 1
theorem ms_t_mul [Lean.Grind.CommRing U] [Lean.Grind.CommRing A] {ca : A → Nat → U} (HA : mp_P ca) (a : A) (n : Nat) : ca (ms_t ca * a) n = if 1 ≤ n then ca a (n - 1) else 0 := by
  rw [ms_t, mp_m_mul HA]
  split
  · grind
  · rfl
theorem ms_t_D [Lean.Grind.CommRing U] [Lean.Grind.CommRing A] {ca : A → Nat → U} (HA : mp_P ca) {a : A} : mp_D (ms_t ca) a ↔ ca a 0 = 0 := by
  constructor
  · rintro ⟨b, rfl⟩
    rw [ms_t_mul HA]
    rfl
  · intro h
    obtain ⟨b, -, hb⟩ := mp_unshift HA a
    rw [h, mp_C_0 HA] at hb
    exact ⟨b, by rw [ms_t]; grind⟩
theorem ms_t_sz [Lean.Grind.CommRing U] [Lean.Grind.CommRing A] {ca : A → Nat → U} (HA : mp_P ca) (hU : mp_NZ U) : mp_sz ca (ms_t ca) = 2 := mp_sz_eq HA (n := 1) (fun j hj => by rw [ms_t, mp_m_cf HA, if_neg (by omega)]) (by rw [ms_t, mp_m_cf HA, if_pos rfl]; exact hU.2)
theorem ms_t_Pr [Lean.Grind.CommRing U] [Lean.Grind.CommRing A] {ca : A → Nat → U} (HA : mp_P ca) (hU : mp_NZ U) : mp_Pr (ms_t ca) := by
  have hs := ms_t_sz HA hU
  refine ⟨fun e => by rw [(mp_sz_0 HA).mpr e] at hs; omega, fun e => by have := mp_U_sz HA hU e; omega, fun f g h => ?_⟩
  rw [ms_t_D HA, mp_mul HA, mp_S_s, mp_S_0] at h
  rcases hU.1 (ca f 0) (ca g 0) (by simp at h; grind) with z | z
  · exact Or.inl ((ms_t_D HA).mpr z)
  · exact Or.inr ((ms_t_D HA).mpr z)
theorem ms_part [Lean.Grind.CommRing U] [Lean.Grind.CommRing A] {cu : U → Nat → FP} {ca : A → Nat → U} (HU : mp_P cu) (HA : mp_P ca) {p h W : A} {sB : U} (hp0 : p ≠ 0) (hfree : ∀ d, mp_Pr d → ¬ mp_D (d * d) p) (h1 : mp_D h p) (h2 : mp_D h (md_E cu ca sB W p)) : mp_D h (md_E cu ca sB W h) := by
  have hAd := mp_dom HA (mp_dom HU (mp_Fd_nz mp_FP))
  obtain ⟨k, hk⟩ := h1
  have hh0 : h ≠ 0 := fun e => hp0 (by rw [hk, e]; grind)
  have hk0 : k ≠ 0 := fun e => hp0 (by rw [hk, e]; grind)
  have hcp : mp_Cp k h := mp_ncp mp_FP HU HA hh0 (fun d hd g1 g2 => hfree d hd (by
    obtain ⟨x, hx⟩ := g1
    obtain ⟨y, hy⟩ := g2
    exact ⟨x * y, by rw [hk, hx, hy]; grind⟩))
  refine mp_euclid mp_FP HU HA hh0 hcp ?_
  have h3 := mp_D_sub h2 (⟨md_E cu ca sB W k, rfl⟩ : mp_D h (h * md_E cu ca sB W k))
  rw [hk, md_E_mul HU HA, show md_E cu ca sB W h * k + h * md_E cu ca sB W k - h * md_E cu ca sB W k = k * md_E cu ca sB W h by grind] at h3
  exact h3
theorem ms_E_exp [Lean.Grind.CommRing U] [Lean.Grind.CommRing A] {cu : U → Nat → FP} {ca : A → Nat → U} (HU : mp_P cu) (HA : mp_P ca) (sA sB : U) (h : A) (n : Nat) : ca (md_E cu ca sB (mp_C ca sA * ms_t ca) h) n = sB * md_d cu (ca h n) + sA * mr_nR n * ca h n := by
  rw [md_E, mp_add HA, mp_C_mul HA, md_x_cf HU HA, show mp_C ca sA * ms_t ca * md_d ca h = mp_C ca sA * (ms_t ca * md_d ca h) by grind, mp_C_mul HA, ms_t_mul HA]
  cases n with
  | zero =>
    rw [if_neg (by omega), show mr_nR (R := U) 0 = 0 from rfl]
    grind
  | succ n =>
    rw [if_pos (by omega), Nat.add_sub_cancel, md_cf HA]
    grind
theorem ms_E_log [Lean.Grind.CommRing U] [Lean.Grind.CommRing A] {cu : U → Nat → FP} {ca : A → Nat → U} (HU : mp_P cu) (HA : mp_P ca) (sA sB : U) (h : A) (n : Nat) : ca (md_E cu ca sB (mp_C ca sA) h) n = sB * md_d cu (ca h n) + sA * mr_nR (n + 1) * ca h (n + 1) := by
  rw [md_E, mp_add HA, mp_C_mul HA, md_x_cf HU HA, mp_C_mul HA, md_cf HA]
  grind
/-- a divisor of its derivation: the other factor is without t -/
theorem ms_factor [Lean.Grind.CommRing U] [Lean.Grind.CommRing A] {cu : U → Nat → FP} {ca : A → Nat → U} (HU : mp_P cu) (HA : mp_P ca) {h e : A} (hh0 : h ≠ 0) (hd : mp_D h e) (hs : mp_sz ca e ≤ mp_sz ca h) : ∃ q : U, ∀ n, ca e n = q * ca h n := by
  have hU := mp_dom HU (mp_Fd_nz mp_FP)
  obtain ⟨q, rfl⟩ := hd
  refine ⟨ca q 0, fun n => ?_⟩
  have hq : mp_sz ca q ≤ 1 := by
    by_cases hq0 : q = 0
    · rw [(mp_sz_0 HA).mpr hq0]; omega
    · have := mp_sz_mul HA hU hh0 hq0
      omega
  rw [show h * q = q * h by grind, mp_sz_1 HA hq, mp_C_mul HA, ← mp_sz_1 HA hq]
theorem ms_exp [Lean.Grind.CommRing U] [Lean.Grind.CommRing A] {cu : U → Nat → FP} {ca : A → Nat → U} (HU : mp_P cu) (HA : mp_P ca) {p h : A} {sA sB u v : U} (hp0 : p ≠ 0) (hfree : ∀ d, mp_Pr d → ¬ mp_D (d * d) p) (hprim : ∀ x : U, mp_D (mp_C ca x) p → mp_U x) (hps : mp_sz ca p ≤ 32003) (hpx : mp_xz cu ca p ≤ 32003) (hv0 : v ≠ 0) (hvs : mp_sz cu v ≤ 32003) (huv : mp_Cp u v) (hne : md_d cu u * v - u * md_d cu v ≠ 0) (hsB : sB ≠ 0) (hs : sB * (md_d cu u * v - u * md_d cu v) = sA * (v * v))
    (hg : mp_G p (md_E cu ca sB (mp_C ca sA * ms_t ca) p) h) : (ca p 0 = 0 → ∃ r : FP, r ≠ 0 ∧ h = mp_C ca (mp_C cu r) * ms_t ca) ∧ (ca p 0 ≠ 0 → mp_U h) := by
  have hR := mp_Fd_nz mp_FP
  have hU := mp_dom HU hR
  have hAd := mp_dom HA hU
  have hh0 : h ≠ 0 := fun e => by obtain ⟨y, hy⟩ := hg.1; exact hp0 (by rw [hy, e]; grind)
  have hhs := mp_D_sz HA hU hg.1 hp0
  have hhx : mp_xz cu ca h ≤ mp_xz cu ca p := mp_D_sz (mp_sw_P HU HA) hU hg.1 hp0
  obtain ⟨q, hq⟩ := ms_factor HU HA hh0 (ms_part HU HA hp0 hfree hg.1 hg.2.1) (mp_sz_le HA (fun n hn => by rw [ms_E_exp HU HA, mp_sz_out HA hn, md_0 HU]; grind))
  obtain ⟨n, hn⟩ : ∃ n, mp_sz ca h = n + 1 := ⟨mp_sz ca h - 1, by have := mp_sz_pos HA hh0; omega⟩
  have hz0 := mp_sz_top HA hn
  have low : ∀ k, k < n → ca h k = 0 := by
    intro k hk
    refine Classical.byContradiction (fun hy0 => ?_)
    have e1 := hq k
    have e2 := hq n
    rw [ms_E_exp HU HA] at e1 e2
    have hnk : mr_nR (R := U) n = mr_nR k + mr_nR (n - k) := by rw [← mr_nR_add, show k + (n - k) = n by omega]
    refine me_exp HU hv0 hy0 hz0 hvs (Nat.le_trans (mp_xz_row HU HA h k) (by omega)) (Nat.le_trans (mp_xz_row HU HA h n) (by omega)) huv (me_n_ne HU (n := n - k) (by omega) (by omega)) hne ?_
    apply mp_cancel hU hsB
    grind
  have hdh : ∀ x : U, mp_D (mp_C ca x) h → mp_U x := fun x hx => hprim x (mp_D_tr hx hg.1)
  have hn1 : n ≤ 1 := by
    refine Classical.byContradiction (fun hq => ?_)
    obtain ⟨b, hb1, hb2⟩ := mp_unshift HA h
    rw [low 0 (by omega), mp_C_0 HA] at hb2
    obtain ⟨b', hb3, hb4⟩ := mp_unshift HA b
    rw [hb1, low 1 (by omega), mp_C_0 HA] at hb4
    refine hfree _ (ms_t_Pr HA hU) (mp_D_tr ⟨b', ?_⟩ hg.1)
    rw [ms_t]
    grind
  by_cases hn0 : n = 0
  · have hu : mp_U h := by
      rw [mp_sz_1 HA (a := h) (by omega)]
      exact mp_U_C HA (hdh _ (by rw [← mp_sz_1 HA (a := h) (by omega)]; exact mp_D_rf h))
    refine ⟨fun h0 => ?_, fun _ => hu⟩
    have ht : mp_D (ms_t ca) h := by
      refine hg.2.2 _ ((ms_t_D HA).mpr h0) ((ms_t_D HA).mpr ?_)
      rw [ms_E_exp HU HA, h0, md_0 HU]
      grind
    exact absurd (mp_U_of_D ht hu) (ms_t_Pr HA hU).2.1
  · have hn1' : n = 1 := by omega
    subst hn1'
    have hh : h = mp_C ca (ca h 1) * ms_t ca := mp_ext HA (fun k => by
      rw [mp_C_mul HA, ms_t, mp_m_cf HA]
      by_cases h1 : k = 1
      · rw [if_pos h1, h1]; grind
      · rw [if_neg h1]
        by_cases h0 : k = 0
        · rw [h0, low 0 (by omega)]; grind
        · rw [mp_sz_out HA (by omega)]; grind)
    have ht : mp_D (ms_t ca) p := mp_D_tr ⟨mp_C ca (ca h 1), by rw [hh, mp_C_mul HA, ms_t, mp_m_cf HA, if_pos rfl]; grind⟩ hg.1
    refine ⟨fun _ => ?_, fun h0 => absurd ((ms_t_D HA).mp ht) h0⟩
    have hu := mp_U_sz HU hR (hdh (ca h 1) ⟨ms_t ca, hh⟩)
    have h9 := mp_sz_1 HU (Nat.le_of_eq hu)
    refine ⟨cu (ca h 1) 0, mp_sz_top HU hu, ?_⟩
    rw [← h9]
    exact hh
theorem ms_log [Lean.Grind.CommRing U] [Lean.Grind.CommRing A] {cu : U → Nat → FP} {ca : A → Nat → U} (HU : mp_P cu) (HA : mp_P ca) {p h : A} {sA sB u v : U} (hp0 : p ≠ 0) (hfree : ∀ d, mp_Pr d → ¬ mp_D (d * d) p) (hprim : ∀ x : U, mp_D (mp_C ca x) p → mp_U x) (hps : mp_sz ca p ≤ 32003) (hpx : mp_xz cu ca p ≤ 32003) (hu0 : u ≠ 0) (hv0 : v ≠ 0) (hus : mp_sz cu u ≤ 32003) (hvs : mp_sz cu v ≤ 32003) (huv : mp_Cp u v) (hne : md_d cu u * v - u * md_d cu v ≠ 0) (hsB : sB ≠ 0) (hs : sB * (md_d cu u * v - u * md_d cu v) = sA * (u * v))
    (hg : mp_G p (md_E cu ca sB (mp_C ca sA) p) h) : mp_U h := by
  have hR := mp_Fd_nz mp_FP
  have hU := mp_dom HU hR
  have hAd := mp_dom HA hU
  have hh0 : h ≠ 0 := fun e => by obtain ⟨y, hy⟩ := hg.1; exact hp0 (by rw [hy, e]; grind)
  have hhs := mp_D_sz HA hU hg.1 hp0
  have hhx : mp_xz cu ca h ≤ mp_xz cu ca p := mp_D_sz (mp_sw_P HU HA) hU hg.1 hp0
  obtain ⟨q, hq⟩ := ms_factor HU HA hh0 (ms_part HU HA hp0 hfree hg.1 hg.2.1) (mp_sz_le HA (fun n hn => by rw [ms_E_log HU HA, mp_sz_out HA hn, mp_sz_out HA (by omega), md_0 HU]; grind))
  obtain ⟨n, hn⟩ : ∃ n, mp_sz ca h = n + 1 := ⟨mp_sz ca h - 1, by have := mp_sz_pos HA hh0; omega⟩
  have hz0 := mp_sz_top HA hn
  by_cases hn0 : n = 0
  · rw [mp_sz_1 HA (a := h) (by omega)]
    exact mp_U_C HA (hprim _ (by rw [← mp_sz_1 HA (a := h) (by omega)]; exact hg.1))
  · exfalso
    have e1 := hq (n - 1)
    have e2 := hq n
    rw [ms_E_log HU HA] at e1 e2
    rw [mp_sz_out HA (n := n + 1) (by omega)] at e2
    rw [show n - 1 + 1 = n by omega] at e1
    have hk : mp_U (-mr_nR (R := U) n) := by
      obtain ⟨c, hc⟩ := me_n_ne HU (n := n) (by omega) (by omega)
      exact ⟨-c, by grind⟩
    refine me_log HU (y := ca h (n - 1)) hu0 hv0 hz0 hus hvs (Nat.le_trans (mp_xz_row HU HA h n) (by omega)) huv hk hne ?_
    apply mp_cancel hU hsB
    grind
end
end
section
/-! the plain form: rows of 40 numbers for a power of t; lowest terms by the first dependence -/
section
variable {U A : Type}
/-- the polynomial as one line -/
noncomputable def mk_K [Lean.Grind.CommRing U] [Lean.Grind.CommRing A] (cu : U → Nat → FP) (ca : A → Nat → U) (a : A) : U := mp_e ca (mp_m cu 1 40) a
theorem mk_cf [Lean.Grind.CommRing U] [Lean.Grind.CommRing A] {cu : U → Nat → FP} {ca : A → Nat → U} (HU : mp_P cu) (HA : mp_P ca) : ∀ (n : Nat) (a : A), mp_sz ca a ≤ n → mp_xz cu ca a ≤ 40 → ∀ j, cu (mk_K cu ca a) j = cu (ca a (j / 40)) (j % 40) := by
  have hU := mp_dom HU (mp_Fd_nz mp_FP)
  intro n
  induction n with
  | zero =>
    intro a h1 _ j
    have : a = 0 := (mp_sz_0 HA).mp (by omega)
    rw [this, mk_K, mp_e_0 HA hU, mp_zero HU, mp_zero HA, mp_zero HU]
  | succ n ih =>
    intro a h1 h2 j
    obtain ⟨b, hb, -⟩ := mp_unshift HA a
    have hb1 : mp_sz ca b ≤ n := mp_sz_le HA (fun k hk => by rw [hb]; exact mp_sz_out HA (by omega))
    have hb2 : mp_xz cu ca b ≤ 40 := mp_xz_le HU HA (fun i => by rw [hb]; exact Nat.le_trans (mp_xz_row HU HA a _) h2)
    have h0 := Nat.le_trans (mp_xz_row HU HA a 0) h2
    rw [mk_K, mp_e_horner HA hU _ (k := 0) hb, mp_add HU, show mp_e ca (mp_m cu 1 40) b * mp_m cu 1 40 = mp_m cu 1 40 * mp_e ca (mp_m cu 1 40) b by clear ih; grind, mp_m_mul HU]
    by_cases hj : 40 ≤ j
    · have := ih b hb1 hb2 (j - 40)
      rw [mk_K] at this
      rw [if_pos hj, this, hb, mp_sz_out HU (a := ca a 0) (n := j) (by omega), show (j - 40) / 40 + 1 = j / 40 by omega, show (j - 40) % 40 = j % 40 by omega]
      clear ih this
      grind
    · rw [if_neg hj, Nat.div_eq_of_lt (by omega), Nat.mod_eq_of_lt (by omega)]
      clear ih
      grind
theorem mk_inj [Lean.Grind.CommRing U] [Lean.Grind.CommRing A] {cu : U → Nat → FP} {ca : A → Nat → U} (HU : mp_P cu) (HA : mp_P ca) {a b : A} (ha : mp_xz cu ca a ≤ 40) (hb : mp_xz cu ca b ≤ 40) (h : mk_K cu ca a = mk_K cu ca b) : a = b := by
  refine mp_ext HA (fun i => mp_ext HU (fun j => ?_))
  by_cases hj : j < 40
  · have h1 := mk_cf HU HA _ a (Nat.le_refl _) ha (40 * i + j)
    have h2 := mk_cf HU HA _ b (Nat.le_refl _) hb (40 * i + j)
    rw [show (40 * i + j) / 40 = i by omega, show (40 * i + j) % 40 = j by omega] at h1 h2
    rw [← h1, h, h2]
  · rw [mp_sz_out HU (Nat.le_trans (mp_xz_row HU HA a i) (by omega)), mp_sz_out HU (Nat.le_trans (mp_xz_row HU HA b i) (by omega))]
theorem mk_sz [Lean.Grind.CommRing U] [Lean.Grind.CommRing A] {cu : U → Nat → FP} {ca : A → Nat → U} (HU : mp_P cu) (HA : mp_P ca) {a : A} {n : Nat} (ha : mp_xz cu ca a ≤ 40) (hn : mp_sz ca a ≤ n) : mp_sz cu (mk_K cu ca a) ≤ 40 * n := mp_sz_le HU (fun j hj => by rw [mk_cf HU HA _ a (Nat.le_refl _) ha, mp_sz_out HA (by omega), mp_zero HU])
/-- the place of the head among 49 -/
noncomputable def mk_h [Lean.Grind.CommRing U] (cu : U → Nat → FP) (ca : A → Nat → U) (a : A) : Nat := 7 * (mp_sz ca a - 1) + (mp_sz cu (mp_lc ca a) - 1)
theorem mk_h_mul [Lean.Grind.CommRing U] [Lean.Grind.CommRing A] {cu : U → Nat → FP} {ca : A → Nat → U} (HU : mp_P cu) (HA : mp_P ca) {a b : A} (ha : a ≠ 0) (hb : b ≠ 0) : mk_h cu ca (a * b) = mk_h cu ca a + mk_h cu ca b := by
  have hR := mp_Fd_nz mp_FP
  have hU := mp_dom HU hR
  obtain ⟨h1, h2⟩ := mp_lc_mul HA hU ha hb
  have h3 := mp_sz_mul HU hR (mp_lc_ne HA ha) (mp_lc_ne HA hb)
  have p1 := mp_sz_pos HA ha
  have p2 := mp_sz_pos HA hb
  have p3 := mp_sz_pos HU (mp_lc_ne HA ha)
  have p4 := mp_sz_pos HU (mp_lc_ne HA hb)
  rw [mk_h, mk_h, mk_h, h2]
  omega
/-- all powers from 0 to 6 -/
def mk_box [Lean.Grind.CommRing U] (cu : U → Nat → FP) (ca : A → Nat → U) (a : A) : Prop := mp_sz ca a ≤ 7 ∧ mp_xz cu ca a ≤ 7
/-- the polynomial with the numbers f, by places 7 i + j -/
noncomputable def mk_of [Lean.Grind.CommRing U] [Lean.Grind.CommRing A] (cu : U → Nat → FP) (ca : A → Nat → U) (f : Nat → FP) : A := mp_mk ca (fun i => if i < 7 then mp_mk cu (fun j => if j < 7 then f (7 * i + j) else 0) else 0)
theorem mk_of_cf [Lean.Grind.CommRing U] [Lean.Grind.CommRing A] {cu : U → Nat → FP} {ca : A → Nat → U} (HU : mp_P cu) (HA : mp_P ca) (f : Nat → FP) (i j : Nat) : cu (ca (mk_of cu ca f) i) j = if i < 7 ∧ j < 7 then f (7 * i + j) else 0 := by
  rw [mk_of, mp_mk_cf HA 7 (fun n hn => if_neg (by omega))]
  by_cases hi : i < 7
  · rw [if_pos hi, mp_mk_cf HU 7 (fun n hn => if_neg (by omega))]
    by_cases hj : j < 7
    · rw [if_pos hj, if_pos ⟨hi, hj⟩]
    · rw [if_neg hj, if_neg (fun q => hj q.2)]
  · rw [if_neg hi, if_neg (fun q => hi q.1), mp_zero HU]
theorem mk_of_box [Lean.Grind.CommRing U] [Lean.Grind.CommRing A] {cu : U → Nat → FP} {ca : A → Nat → U} (HU : mp_P cu) (HA : mp_P ca) (f : Nat → FP) : mk_box cu ca (mk_of cu ca f) := by
  refine ⟨mp_sz_le HA (fun n hn => mp_ext HU (fun j => by rw [mk_of_cf HU HA, if_neg (by omega), mp_zero HU])), mp_xz_le HU HA (fun i => mp_sz_le HU (fun j hj => by rw [mk_of_cf HU HA, if_neg (by omega)]))⟩
theorem mk_of_eq [Lean.Grind.CommRing U] [Lean.Grind.CommRing A] {cu : U → Nat → FP} {ca : A → Nat → U} (HU : mp_P cu) (HA : mp_P ca) {a : A} (h : mk_box cu ca a) : mk_of cu ca (fun k => cu (ca a (k / 7)) (k % 7)) = a := by
  refine mp_ext HA (fun i => mp_ext HU (fun j => ?_))
  rw [mk_of_cf HU HA]
  by_cases hj : j < 7
  · by_cases hi : i < 7
    · rw [if_pos ⟨hi, hj⟩, show (7 * i + j) / 7 = i by omega, show (7 * i + j) % 7 = j by omega]
    · rw [if_neg (fun q => hi q.1), mp_sz_out HA (by have := h.1; omega), mp_zero HU]
  · rw [if_neg (fun q => hj q.2), mp_sz_out HU (Nat.le_trans (mp_xz_row HU HA a i) (by have := h.2; omega))]
theorem mk_h_at [Lean.Grind.CommRing U] [Lean.Grind.CommRing A] {cu : U → Nat → FP} {ca : A → Nat → U} (HU : mp_P cu) (HA : mp_P ca) {a : A} (ha : a ≠ 0) (h : mk_box cu ca a) : mk_h cu ca a < 49 ∧ cu (ca a (mk_h cu ca a / 7)) (mk_h cu ca a % 7) ≠ 0 := by
  have p1 := mp_sz_pos HA ha
  have p3 := mp_sz_pos HU (mp_lc_ne HA ha)
  have p4 : mp_sz cu (mp_lc ca a) ≤ 7 := Nat.le_trans (mp_xz_row HU HA a _) h.2
  have h1 := h.1
  refine ⟨by rw [mk_h]; omega, ?_⟩
  rw [mk_h, show (7 * (mp_sz ca a - 1) + (mp_sz cu (mp_lc ca a) - 1)) / 7 = mp_sz ca a - 1 by omega, show (7 * (mp_sz ca a - 1) + (mp_sz cu (mp_lc ca a) - 1)) % 7 = mp_sz cu (mp_lc ca a) - 1 by omega]
  exact mp_lc_ne HU (mp_lc_ne HA ha)
theorem mk_h_max [Lean.Grind.CommRing U] [Lean.Grind.CommRing A] {cu : U → Nat → FP} {ca : A → Nat → U} (HU : mp_P cu) (HA : mp_P ca) {a : A} (h : mk_box cu ca a) {k : Nat} (hk : cu (ca a (k / 7)) (k % 7) ≠ 0) : k ≤ mk_h cu ca a := by
  have h1 : ca a (k / 7) ≠ 0 := fun e => hk (by rw [e, mp_zero HU])
  have h2 := mp_sz_lt HA h1
  have h3 := mp_sz_lt HU hk
  have h4 := Nat.le_trans (mp_xz_row HU HA a (k / 7)) h.2
  rw [mk_h]
  by_cases e : k / 7 = mp_sz ca a - 1
  · rw [mp_lc, ← e]; omega
  · omega
/-- the columns: even names of a, odd ones of b -/
noncomputable def mk_V [Lean.Grind.CommRing U] [Lean.Grind.CommRing A] (cu : U → Nat → FP) (ca : A → Nat → U) (a b : A) (k : Nat) : U := mp_m cu 1 (40 * (k / 2 / 7) + k / 2 % 7) * mk_K cu ca (if k % 2 = 0 then a else b)
theorem mk_K_mm [Lean.Grind.CommRing U] [Lean.Grind.CommRing A] {cu : U → Nat → FP} {ca : A → Nat → U} (HU : mp_P cu) (HA : mp_P ca) (i : Nat) {j : Nat} (hj : j < 40) : mk_K cu ca (mp_mm cu ca i j) = mp_m cu 1 (40 * i + j) := by
  refine mp_ext HU (fun n => ?_)
  rw [mk_cf HU HA _ _ (Nat.le_refl _) (mp_xz_le HU HA (fun i' => mp_sz_le HU (fun k hk => by rw [mp_mm_cf HU HA, if_neg (by omega)]))), mp_mm_cf HU HA, mp_m_cf HU]
  by_cases h : n = 40 * i + j
  · rw [if_pos h, if_pos (by omega)]
  · rw [if_neg h, if_neg (by omega)]
theorem mk_S2 {R : Type} [Lean.Grind.CommRing R] (f : Nat → R) : ∀ n, mp_S (2 * n) f = mp_S n (fun k => f (2 * k)) + mp_S n (fun k => f (2 * k + 1))
  | 0 => by show (0 : R) = 0 + 0; grind
  | n + 1 => by
    rw [show 2 * (n + 1) = 2 * n + 1 + 1 by omega, mp_S_s, mp_S_s, mk_S2 f n, mp_S_s, mp_S_s]
    grind
theorem mk_of_sum [Lean.Grind.CommRing U] [Lean.Grind.CommRing A] {cu : U → Nat → FP} {ca : A → Nat → U} (HU : mp_P cu) (HA : mp_P ca) (f : Nat → FP) : mk_of cu ca f = mp_S 49 (fun k => mp_C ca (mp_C cu (f k)) * mp_mm cu ca (k / 7) (k % 7)) := by
  refine mp_ext HA (fun i => mp_ext HU (fun j => ?_))
  rw [mk_of_cf HU HA, mp_sum HA, mp_sum HU]
  by_cases h : i < 7 ∧ j < 7
  · rw [if_pos h, mp_S_one (k := 7 * i + j) (by omega) (fun k hk hki => by rw [mp_CC_mul HU HA, mp_mm_cf HU HA, if_neg (by omega)]; grind), mp_CC_mul HU HA, mp_mm_cf HU HA, if_pos (by omega)]
    grind
  · rw [if_neg h]
    exact (mp_S_zero (fun k hk => by rw [mp_CC_mul HU HA, mp_mm_cf HU HA, if_neg (by omega)]; grind)).symm
/-- numbers of the columns that make 0: a pair that crosses out -/
theorem mk_cross [Lean.Grind.CommRing U] [Lean.Grind.CommRing A] {cu : U → Nat → FP} {ca : A → Nat → U} (HU : mp_P cu) (HA : mp_P ca) {a b : A} (hb : b ≠ 0) (ha1 : mp_xz cu ca a ≤ 34) (hb1 : mp_xz cu ca b ≤ 34) (f : Nat → FP) : mp_S 98 (fun k => mp_C cu (f k) * mk_V cu ca a b k) = 0 ↔ mk_of cu ca (fun k => f (2 * k)) * a = mk_of cu ca (fun k => -f (2 * k + 1)) * b := by
  have hU := mp_dom HU (mp_Fd_nz mp_FP)
  have hAd := mp_dom HA hU
  have hx : ∀ (f : Nat → FP) (c : A), mp_xz cu ca c ≤ 34 → mp_xz cu ca (mk_of cu ca f * c) ≤ 40 := by
    intro f c hc
    have h1 := (mk_of_box HU HA f).2
    by_cases h0 : mk_of cu ca f = 0
    · rw [h0, show (0 : A) * c = 0 by grind]
      rw [show mp_xz cu ca (0 : A) = 0 from (mp_sz_0 (mp_sw_P HU HA)).mpr rfl]
      omega
    · by_cases hc0 : c = 0
      · rw [hc0, show mk_of cu ca f * 0 = 0 by grind, show mp_xz cu ca (0 : A) = 0 from (mp_sz_0 (mp_sw_P HU HA)).mpr rfl]
        omega
      · have := mp_xz_mul mp_FP HU HA h0 hc0
        omega
  have hK : ∀ (f : Nat → FP) (c : A), mk_K cu ca (mk_of cu ca f * c) = mp_S 49 (fun k => mp_C cu (f k) * (mp_m cu 1 (40 * (k / 7) + k % 7) * mk_K cu ca c)) := by
    intro f c
    rw [mk_K, mp_e_mul HA hU, mk_of_sum HU HA, mp_e_S HA hU, ← mp_S_mulr]
    refine mp_S_cong (fun k _ => ?_)
    rw [mp_e_mul HA hU, mp_e_C HA hU]
    have := mk_K_mm HU HA (k / 7) (j := k % 7) (by omega)
    rw [mk_K] at this
    rw [this, mk_K]
    grind
  have e1 : mp_S 98 (fun k => mp_C cu (f k) * mk_V cu ca a b k) = mk_K cu ca (mk_of cu ca (fun k => f (2 * k)) * a) - mk_K cu ca (mk_of cu ca (fun k => -f (2 * k + 1)) * b) := by
    rw [show 98 = 2 * 49 from rfl, mk_S2, hK, hK]
    have h1 : mp_S 49 (fun k => mp_C cu (f (2 * k)) * mk_V cu ca a b (2 * k)) = mp_S 49 (fun k => mp_C cu (f (2 * k)) * (mp_m cu 1 (40 * (k / 7) + k % 7) * mk_K cu ca a)) := mp_S_cong (fun k _ => by
      rw [mk_V, show 2 * k / 2 = k by omega, if_pos (by omega)])
    have h2 : mp_S 49 (fun k => mp_C cu (f (2 * k + 1)) * mk_V cu ca a b (2 * k + 1)) = mp_S 49 (fun k => (-1) * (mp_C cu (-f (2 * k + 1)) * (mp_m cu 1 (40 * (k / 7) + k % 7) * mk_K cu ca b))) := mp_S_cong (fun k _ => by
      rw [mk_V, show (2 * k + 1) / 2 = k by omega, if_neg (by omega), mp_C_neg HU]
      grind)
    rw [h1, h2, mp_S_mul]
    grind
  rw [e1]
  constructor
  · intro h
    exact mk_inj HU HA (hx _ _ ha1) (hx _ _ hb1) (by grind)
  · intro h
    rw [h]
    grind
/-- what reduce finds -/
theorem mk_true [Lean.Grind.CommRing U] [Lean.Grind.CommRing A] {cu : U → Nat → FP} {ca : A → Nat → U} (HU : mp_P cu) (HA : mp_P ca) {a b p q : A} (hb : b ≠ 0) (ha1 : mp_xz cu ca a ≤ 34) (hb1 : mp_xz cu ca b ≤ 34) (hl : mp_LT a b p q) {f : Nat → FP} {n : Nat} (hn : n < 98) (hf1 : f n ≠ 0) (hf2 : ∀ k, n < k → k < 98 → f k = 0) (hf : mp_S 98 (fun k => mp_C cu (f k) * mk_V cu ca a b k) = 0)
    (hi : ∀ c : Nat → FP, mp_S n (fun k => mp_C cu (c k) * mk_V cu ca a b k) = 0 → ∀ k, k < n → c k = 0) :
    ∃ r : FP, r ≠ 0 ∧ mk_of cu ca (fun k => f (2 * k)) = mp_C ca (mp_C cu r) * q ∧ mk_of cu ca (fun k => -f (2 * k + 1)) = mp_C ca (mp_C cu r) * p ∧ mk_box cu ca p ∧ mk_box cu ca q := by
  have hU := mp_dom HU (mp_Fd_nz mp_FP)
  have hAd := mp_dom HA hU
  obtain ⟨s, h1, h2⟩ := hl.2.2 _ _ ((mk_cross HU HA hb ha1 hb1 f).mp hf)
  have b1 := mk_of_box HU HA (cu := cu) (ca := ca) (fun k => f (2 * k))
  have b2 := mk_of_box HU HA (cu := cu) (ca := ca) (fun k => -f (2 * k + 1))
  have g1 : ∀ k, k < 49 → cu (ca (mk_of cu ca (fun k => f (2 * k))) (k / 7)) (k % 7) = f (2 * k) := fun k hk => by rw [mk_of_cf HU HA, if_pos (by omega), show 7 * (k / 7) + k % 7 = k by omega]
  have g2 : ∀ k, k < 49 → cu (ca (mk_of cu ca (fun k => -f (2 * k + 1))) (k / 7)) (k % 7) = -f (2 * k + 1) := fun k hk => by rw [mk_of_cf HU HA, if_pos (by omega), show 7 * (k / 7) + k % 7 = k by omega]
  have hs0 : s ≠ 0 := by
    intro e
    have z1 : mk_of cu ca (fun k => f (2 * k)) = 0 := by rw [h1, e]; grind
    have z2 : mk_of cu ca (fun k => -f (2 * k + 1)) = 0 := by rw [h2, e]; grind
    by_cases hp : n % 2 = 0
    · have := g1 (n / 2) (by omega)
      rw [z1, mp_zero HA, mp_zero HU, show 2 * (n / 2) = n by omega] at this
      exact hf1 this.symm
    · have := g2 (n / 2) (by omega)
      rw [z2, mp_zero HA, mp_zero HU, show 2 * (n / 2) + 1 = n by omega] at this
      exact hf1 (by grind)
  have hq0 := hl.1
  have bq : mk_box cu ca q := ⟨Nat.le_trans (mp_D_sz HA hU ⟨s, h1⟩ (by rw [h1]; exact mp_nz_mul hAd hq0 hs0)) b1.1, Nat.le_trans (mp_D_sz (mp_sw_P HU HA) hU ⟨s, h1⟩ (by rw [h1]; exact mp_nz_mul hAd hq0 hs0)) b1.2⟩
  have bp : mk_box cu ca p := by
    by_cases hp0 : p = 0
    · rw [hp0]
      exact ⟨by rw [(mp_sz_0 HA).mpr rfl]; omega, by rw [show mp_xz cu ca (0 : A) = 0 from (mp_sz_0 (mp_sw_P HU HA)).mpr rfl]; omega⟩
    · exact ⟨Nat.le_trans (mp_D_sz HA hU ⟨s, h2⟩ (by rw [h2]; exact mp_nz_mul hAd hp0 hs0)) b2.1, Nat.le_trans (mp_D_sz (mp_sw_P HU HA) hU ⟨s, h2⟩ (by rw [h2]; exact mp_nz_mul hAd hp0 hs0)) b2.2⟩
  have hsz : mk_h cu ca s = 0 := by
    refine Classical.byContradiction (fun hne => ?_)
    let c : Nat → FP := fun k => if k % 2 = 0 then cu (ca q (k / 2 / 7)) (k / 2 % 7) else -cu (ca p (k / 2 / 7)) (k / 2 % 7)
    have c1 : mk_of cu ca (fun k => c (2 * k)) = q := by
      have : (fun k => c (2 * k)) = fun k => cu (ca q (k / 7)) (k % 7) := funext (fun k => by
        show (if 2 * k % 2 = 0 then cu (ca q (2 * k / 2 / 7)) (2 * k / 2 % 7) else _) = _
        rw [if_pos (by omega), show 2 * k / 2 = k by omega])
      rw [this, mk_of_eq HU HA bq]
    have c2 : mk_of cu ca (fun k => -c (2 * k + 1)) = p := by
      have : (fun k => -c (2 * k + 1)) = fun k => cu (ca p (k / 7)) (k % 7) := funext (fun k => by
        show -(if (2 * k + 1) % 2 = 0 then _ else -cu (ca p ((2 * k + 1) / 2 / 7)) ((2 * k + 1) / 2 % 7)) = _
        rw [if_neg (by omega), show (2 * k + 1) / 2 = k by omega]
        grind)
      rw [this, mk_of_eq HU HA bp]
    have hz : ∀ k, n ≤ k → k < 98 → c k = 0 := by
      intro k hk1 hk2
      refine Classical.byContradiction (fun hck => ?_)
      by_cases hp : k % 2 = 0
      · have e1 : c k = cu (ca q (k / 2 / 7)) (k / 2 % 7) := if_pos hp
        rw [e1] at hck
        have m1 := mk_h_max HU HA bq hck
        have m2 := mk_h_mul HU HA hq0 hs0
        rw [← h1] at m2
        obtain ⟨m3, m4⟩ := mk_h_at HU HA (by rw [h1]; exact mp_nz_mul hAd hq0 hs0) b1
        rw [g1 _ m3] at m4
        exact m4 (hf2 _ (by omega) (by omega))
      · have e1 : c k = -cu (ca p (k / 2 / 7)) (k / 2 % 7) := if_neg hp
        have hck2 : cu (ca p (k / 2 / 7)) (k / 2 % 7) ≠ 0 := fun z => hck (by rw [e1, z]; grind)
        have hp0 : p ≠ 0 := fun z => hck2 (by rw [z, mp_zero HA, mp_zero HU])
        have m1 := mk_h_max HU HA bp hck2
        have m2 := mk_h_mul HU HA hp0 hs0
        rw [← h2] at m2
        obtain ⟨m3, m4⟩ := mk_h_at HU HA (by rw [h2]; exact mp_nz_mul hAd hp0 hs0) b2
        rw [g2 _ m3] at m4
        exact m4 (by rw [hf2 _ (by omega) (by omega)]; grind)
    have hsum := (mk_cross HU HA hb ha1 hb1 c).mpr (by rw [c1, c2]; exact hl.2.1)
    rw [mp_S_more (n := n) (by omega) (fun k hk1 hk2 => by rw [hz k hk1 hk2, mp_C_0 HU]; grind)] at hsum
    have hall := hi c hsum
    obtain ⟨m3, m4⟩ := mk_h_at HU HA hq0 bq
    have e1 : c (2 * mk_h cu ca q) = cu (ca q (mk_h cu ca q / 7)) (mk_h cu ca q % 7) := by
      show (if 2 * mk_h cu ca q % 2 = 0 then cu (ca q (2 * mk_h cu ca q / 2 / 7)) (2 * mk_h cu ca q / 2 % 7) else _) = _
      rw [if_pos (by omega), show 2 * mk_h cu ca q / 2 = mk_h cu ca q by omega]
    refine m4 (e1.symm.trans ?_)
    by_cases hlt : 2 * mk_h cu ca q < n
    · exact hall _ hlt
    · exact hz _ (by omega) (by omega)
  have p1 := mp_sz_pos HA hs0
  have p3 := mp_sz_pos HU (mp_lc_ne HA hs0)
  obtain ⟨r, hr0, hr⟩ := mp_mu_U mp_FP HU HA hs0 (by rw [mk_h] at hsz; rw [mp_mu]; omega)
  exact ⟨r, hr0, by rw [h1, hr]; grind, by rw [h2, hr]; grind, bp, bq⟩
/-- where reduce finds nothing it is too great -/
theorem mk_false [Lean.Grind.CommRing U] [Lean.Grind.CommRing A] {cu : U → Nat → FP} {ca : A → Nat → U} (HU : mp_P cu) (HA : mp_P ca) {a b p q : A} (hb : b ≠ 0) (ha1 : mp_xz cu ca a ≤ 34) (hb1 : mp_xz cu ca b ≤ 34) (hl : mp_LT a b p q)
    (hi : ∀ c : Nat → FP, mp_S 98 (fun k => mp_C cu (c k) * mk_V cu ca a b k) = 0 → ∀ k, k < 98 → c k = 0) : ¬ (mk_box cu ca p ∧ mk_box cu ca q) := by
  rintro ⟨bp, bq⟩
  let c : Nat → FP := fun k => if k % 2 = 0 then cu (ca q (k / 2 / 7)) (k / 2 % 7) else -cu (ca p (k / 2 / 7)) (k / 2 % 7)
  have c1 : mk_of cu ca (fun k => c (2 * k)) = q := by
    have : (fun k => c (2 * k)) = fun k => cu (ca q (k / 7)) (k % 7) := funext (fun k => by
      show (if 2 * k % 2 = 0 then cu (ca q (2 * k / 2 / 7)) (2 * k / 2 % 7) else _) = _
      rw [if_pos (by omega), show 2 * k / 2 = k by omega])
    rw [this, mk_of_eq HU HA bq]
  have c2 : mk_of cu ca (fun k => -c (2 * k + 1)) = p := by
    have : (fun k => -c (2 * k + 1)) = fun k => cu (ca p (k / 7)) (k % 7) := funext (fun k => by
      show -(if (2 * k + 1) % 2 = 0 then _ else -cu (ca p ((2 * k + 1) / 2 / 7)) ((2 * k + 1) / 2 % 7)) = _
      rw [if_neg (by omega), show (2 * k + 1) / 2 = k by omega]
      grind)
    rw [this, mk_of_eq HU HA bp]
  have hall := hi c ((mk_cross HU HA hb ha1 hb1 c).mpr (by rw [c1, c2]; exact hl.2.1))
  obtain ⟨m3, m4⟩ := mk_h_at HU HA hl.1 bq
  have e1 : c (2 * mk_h cu ca q) = cu (ca q (mk_h cu ca q / 7)) (mk_h cu ca q % 7) := by
    show (if 2 * mk_h cu ca q % 2 = 0 then cu (ca q (2 * mk_h cu ca q / 2 / 7)) (2 * mk_h cu ca q / 2 % 7) else _) = _
    rw [if_pos (by omega), show 2 * mk_h cu ca q / 2 = mk_h cu ca q by omega]
  exact m4 (e1.symm.trans (hall _ (by omega)))
end
end
section
-- ===== PART A: goes FIRST, ahead of the names: the tables' words, and 'selects' of the private methods out of them =====
/-- a private method of a class that the tables say can be made, by its rows of tables_1 -/
def lw_okq (q : MethodName × Nat) : Prop := (q.1.cls ≠ "java/lang/invoke/MethodHandle" ∧ q.1.cls ≠ "java/lang/invoke/VarHandle") ∧ Cond.instantiable q.1.cls q.2 ∈ tables_1 ∧ Cond.privateMethod q.1 ∈ tables_1 ∧ Cond.instanceMethod q.1 ∈ tables_1
theorem lw_p0 : lw_okq (⟨"java/lang/Throwable", "fillInStackTrace", "(I)Ljava/lang/Throwable;"⟩, 6) := ⟨⟨by decide +kernel, by decide +kernel⟩, List.mem_of_getElem? (i := 204) (by decide +kernel), List.mem_of_getElem? (i := 202) (by decide +kernel), List.mem_of_getElem? (i := 203) (by decide +kernel)⟩
theorem lw_p1 : lw_okq (⟨"TowerFields", "requireRoom", "()V"⟩, 15) := ⟨⟨by decide +kernel, by decide +kernel⟩, List.mem_of_getElem? (i := 17) (by decide +kernel), List.mem_of_getElem? (i := 252) (by decide +kernel), List.mem_of_getElem? (i := 253) (by decide +kernel)⟩
theorem lw_p2 : lw_okq (⟨"TowerFields", "keepSingle", "(III)I"⟩, 15) := ⟨⟨by decide +kernel, by decide +kernel⟩, List.mem_of_getElem? (i := 17) (by decide +kernel), List.mem_of_getElem? (i := 282) (by decide +kernel), List.mem_of_getElem? (i := 283) (by decide +kernel)⟩
theorem lw_p3 : lw_okq (⟨"TowerFields", "keep", "(LTowerFields$Poly;LTowerFields$Poly;)I"⟩, 15) := ⟨⟨by decide +kernel, by decide +kernel⟩, List.mem_of_getElem? (i := 17) (by decide +kernel), List.mem_of_getElem? (i := 294) (by decide +kernel), List.mem_of_getElem? (i := 295) (by decide +kernel)⟩
theorem lw_p4 : lw_okq (⟨"TowerFields", "store", "(II)V"⟩, 15) := ⟨⟨by decide +kernel, by decide +kernel⟩, List.mem_of_getElem? (i := 17) (by decide +kernel), List.mem_of_getElem? (i := 305) (by decide +kernel), List.mem_of_getElem? (i := 306) (by decide +kernel)⟩
theorem lw_p5 : lw_okq (⟨"TowerFields", "requireElement", "(I)V"⟩, 15) := ⟨⟨by decide +kernel, by decide +kernel⟩, List.mem_of_getElem? (i := 17) (by decide +kernel), List.mem_of_getElem? (i := 343) (by decide +kernel), List.mem_of_getElem? (i := 344) (by decide +kernel)⟩
theorem lw_p6 : lw_okq (⟨"TowerFields", "hasNoSlope", "(I)Z"⟩, 15) := ⟨⟨by decide +kernel, by decide +kernel⟩, List.mem_of_getElem? (i := 17) (by decide +kernel), List.mem_of_getElem? (i := 377) (by decide +kernel), List.mem_of_getElem? (i := 378) (by decide +kernel)⟩
theorem lw_p7 : lw_okq (⟨"TowerFields", "slopeOfFraction", "(I)V"⟩, 15) := ⟨⟨by decide +kernel, by decide +kernel⟩, List.mem_of_getElem? (i := 17) (by decide +kernel), List.mem_of_getElem? (i := 381) (by decide +kernel), List.mem_of_getElem? (i := 382) (by decide +kernel)⟩
theorem lw_p8 : lw_okq (⟨"TowerFields", "load", "(IILTowerFields$Poly;)V"⟩, 15) := ⟨⟨by decide +kernel, by decide +kernel⟩, List.mem_of_getElem? (i := 17) (by decide +kernel), List.mem_of_getElem? (i := 385) (by decide +kernel), List.mem_of_getElem? (i := 386) (by decide +kernel)⟩
theorem lw_p9 : lw_okq (⟨"TowerFields", "stored", "(I)I"⟩, 15) := ⟨⟨by decide +kernel, by decide +kernel⟩, List.mem_of_getElem? (i := 17) (by decide +kernel), List.mem_of_getElem? (i := 389) (by decide +kernel), List.mem_of_getElem? (i := 390) (by decide +kernel)⟩
theorem lw_p10 : lw_okq (⟨"TowerFields", "slopeOfPoly", "(LTowerFields$Poly;LTowerFields$Poly;)V"⟩, 15) := ⟨⟨by decide +kernel, by decide +kernel⟩, List.mem_of_getElem? (i := 17) (by decide +kernel), List.mem_of_getElem? (i := 393) (by decide +kernel), List.mem_of_getElem? (i := 394) (by decide +kernel)⟩
theorem lw_p11 : lw_okq (⟨"TowerFields", "setSlope", "(I)V"⟩, 15) := ⟨⟨by decide +kernel, by decide +kernel⟩, List.mem_of_getElem? (i := 17) (by decide +kernel), List.mem_of_getElem? (i := 424) (by decide +kernel), List.mem_of_getElem? (i := 425) (by decide +kernel)⟩
theorem lw_p12 : lw_okq (⟨"TowerFields$Divisor", "divideBoth", "(LTowerFields$Poly;LTowerFields$Poly;)Z"⟩, 15) := ⟨⟨by decide +kernel, by decide +kernel⟩, List.mem_of_getElem? (i := 54) (by decide +kernel), List.mem_of_getElem? (i := 457) (by decide +kernel), List.mem_of_getElem? (i := 458) (by decide +kernel)⟩
theorem lw_p13 : lw_okq (⟨"TowerFields$Divisor", "divide", "(LTowerFields$Poly;LTowerFields$Poly;)Z"⟩, 15) := ⟨⟨by decide +kernel, by decide +kernel⟩, List.mem_of_getElem? (i := 54) (by decide +kernel), List.mem_of_getElem? (i := 461) (by decide +kernel), List.mem_of_getElem? (i := 462) (by decide +kernel)⟩
theorem lw_p14 : lw_okq (⟨"TowerFields$Divisor", "findContents", "(LTowerFields$Poly;LTowerFields$Poly;)V"⟩, 15) := ⟨⟨by decide +kernel, by decide +kernel⟩, List.mem_of_getElem? (i := 54) (by decide +kernel), List.mem_of_getElem? (i := 483) (by decide +kernel), List.mem_of_getElem? (i := 484) (by decide +kernel)⟩
theorem lw_p15 : lw_okq (⟨"TowerFields$Divisor", "contentOf", "(LTowerFields$Poly;LTowerFields$Line;)V"⟩, 15) := ⟨⟨by decide +kernel, by decide +kernel⟩, List.mem_of_getElem? (i := 54) (by decide +kernel), List.mem_of_getElem? (i := 487) (by decide +kernel), List.mem_of_getElem? (i := 488) (by decide +kernel)⟩
def lw_privs_1 : List (MethodName × Nat) := [(⟨"java/lang/Throwable", "fillInStackTrace", "(I)Ljava/lang/Throwable;"⟩, 6), (⟨"TowerFields", "requireRoom", "()V"⟩, 15), (⟨"TowerFields", "keepSingle", "(III)I"⟩, 15), (⟨"TowerFields", "keep", "(LTowerFields$Poly;LTowerFields$Poly;)I"⟩, 15), (⟨"TowerFields", "store", "(II)V"⟩, 15), (⟨"TowerFields", "requireElement", "(I)V"⟩, 15), (⟨"TowerFields", "hasNoSlope", "(I)Z"⟩, 15), (⟨"TowerFields", "slopeOfFraction", "(I)V"⟩, 15), (⟨"TowerFields", "load", "(IILTowerFields$Poly;)V"⟩, 15), (⟨"TowerFields", "stored", "(I)I"⟩, 15), (⟨"TowerFields", "slopeOfPoly", "(LTowerFields$Poly;LTowerFields$Poly;)V"⟩, 15), (⟨"TowerFields", "setSlope", "(I)V"⟩, 15), (⟨"TowerFields$Divisor", "divideBoth", "(LTowerFields$Poly;LTowerFields$Poly;)Z"⟩, 15), (⟨"TowerFields$Divisor", "divide", "(LTowerFields$Poly;LTowerFields$Poly;)Z"⟩, 15), (⟨"TowerFields$Divisor", "findContents", "(LTowerFields$Poly;LTowerFields$Poly;)V"⟩, 15), (⟨"TowerFields$Divisor", "contentOf", "(LTowerFields$Poly;LTowerFields$Line;)V"⟩, 15)]
theorem lw_r1 : ∀ q ∈ lw_privs_1, lw_okq q := List.forall_mem_cons.mpr ⟨lw_p0, List.forall_mem_cons.mpr ⟨lw_p1, List.forall_mem_cons.mpr ⟨lw_p2, List.forall_mem_cons.mpr ⟨lw_p3, List.forall_mem_cons.mpr ⟨lw_p4, List.forall_mem_cons.mpr ⟨lw_p5, List.forall_mem_cons.mpr ⟨lw_p6, List.forall_mem_cons.mpr ⟨lw_p7, List.forall_mem_cons.mpr ⟨lw_p8, List.forall_mem_cons.mpr ⟨lw_p9, List.forall_mem_cons.mpr ⟨lw_p10, List.forall_mem_cons.mpr ⟨lw_p11, List.forall_mem_cons.mpr ⟨lw_p12, List.forall_mem_cons.mpr ⟨lw_p13, List.forall_mem_cons.mpr ⟨lw_p14, List.forall_mem_cons.mpr ⟨lw_p15, fun _ h => absurd h List.not_mem_nil⟩⟩⟩⟩⟩⟩⟩⟩⟩⟩⟩⟩⟩⟩⟩⟩
theorem lw_p16 : lw_okq (⟨"TowerFields$Line", "exchange", "(LTowerFields$Line;)V"⟩, 2) := ⟨⟨by decide +kernel, by decide +kernel⟩, List.mem_of_getElem? (i := 25) (by decide +kernel), List.mem_of_getElem? (i := 497) (by decide +kernel), List.mem_of_getElem? (i := 498) (by decide +kernel)⟩
theorem lw_p17 : lw_okq (⟨"TowerFields$Divisor", "leadOf", "(LTowerFields$Poly;LTowerFields$Line;LTowerFields$Line;)V"⟩, 15) := ⟨⟨by decide +kernel, by decide +kernel⟩, List.mem_of_getElem? (i := 54) (by decide +kernel), List.mem_of_getElem? (i := 502) (by decide +kernel), List.mem_of_getElem? (i := 503) (by decide +kernel)⟩
theorem lw_p18 : lw_okq (⟨"TowerFields$Divisor", "findImage", "(LTowerFields$Poly;LTowerFields$Poly;I)Z"⟩, 15) := ⟨⟨by decide +kernel, by decide +kernel⟩, List.mem_of_getElem? (i := 54) (by decide +kernel), List.mem_of_getElem? (i := 509) (by decide +kernel), List.mem_of_getElem? (i := 510) (by decide +kernel)⟩
theorem lw_p19 : lw_okq (⟨"TowerFields$Divisor", "takeIn", "(I)Z"⟩, 15) := ⟨⟨by decide +kernel, by decide +kernel⟩, List.mem_of_getElem? (i := 54) (by decide +kernel), List.mem_of_getElem? (i := 521) (by decide +kernel), List.mem_of_getElem? (i := 522) (by decide +kernel)⟩
theorem lw_p20 : lw_okq (⟨"TowerFields$Divisor", "tryPieced", "(LTowerFields$Poly;LTowerFields$Poly;)Z"⟩, 15) := ⟨⟨by decide +kernel, by decide +kernel⟩, List.mem_of_getElem? (i := 54) (by decide +kernel), List.mem_of_getElem? (i := 531) (by decide +kernel), List.mem_of_getElem? (i := 532) (by decide +kernel)⟩
theorem lw_p21 : lw_okq (⟨"TowerFields", "takeTwo", "(II)V"⟩, 15) := ⟨⟨by decide +kernel, by decide +kernel⟩, List.mem_of_getElem? (i := 17) (by decide +kernel), List.mem_of_getElem? (i := 551) (by decide +kernel), List.mem_of_getElem? (i := 552) (by decide +kernel)⟩
theorem lw_p22 : lw_okq (⟨"TowerFields", "sumUp", "(I)V"⟩, 15) := ⟨⟨by decide +kernel, by decide +kernel⟩, List.mem_of_getElem? (i := 17) (by decide +kernel), List.mem_of_getElem? (i := 555) (by decide +kernel), List.mem_of_getElem? (i := 556) (by decide +kernel)⟩
theorem lw_p23 : lw_okq (⟨"TowerFields", "keepLowest", "()I"⟩, 15) := ⟨⟨by decide +kernel, by decide +kernel⟩, List.mem_of_getElem? (i := 17) (by decide +kernel), List.mem_of_getElem? (i := 559) (by decide +kernel), List.mem_of_getElem? (i := 560) (by decide +kernel)⟩
theorem lw_p24 : lw_okq (⟨"TowerFields", "slopeOverProduct", "(LTowerFields$Poly;LTowerFields$Poly;)V"⟩, 15) := ⟨⟨by decide +kernel, by decide +kernel⟩, List.mem_of_getElem? (i := 17) (by decide +kernel), List.mem_of_getElem? (i := 599) (by decide +kernel), List.mem_of_getElem? (i := 600) (by decide +kernel)⟩
theorem lw_p25 : lw_okq (⟨"TowerFields", "makeSquareFree", "(LTowerFields$Poly;)V"⟩, 15) := ⟨⟨by decide +kernel, by decide +kernel⟩, List.mem_of_getElem? (i := 17) (by decide +kernel), List.mem_of_getElem? (i := 618) (by decide +kernel), List.mem_of_getElem? (i := 619) (by decide +kernel)⟩
theorem lw_p26 : lw_okq (⟨"TowerFields", "splitSquareFree", "(LTowerFields$Poly;I)V"⟩, 15) := ⟨⟨by decide +kernel, by decide +kernel⟩, List.mem_of_getElem? (i := 17) (by decide +kernel), List.mem_of_getElem? (i := 624) (by decide +kernel), List.mem_of_getElem? (i := 625) (by decide +kernel)⟩
theorem lw_p27 : lw_okq (⟨"TowerFieldsModel", "one", "([I)V"⟩, 21) := ⟨⟨by decide +kernel, by decide +kernel⟩, List.mem_of_getElem? (i := 665) (by decide +kernel), List.mem_of_getElem? (i := 751) (by decide +kernel), List.mem_of_getElem? (i := 752) (by decide +kernel)⟩
theorem lw_p28 : lw_okq (⟨"TowerFieldsModel", "keep", "()I"⟩, 21) := ⟨⟨by decide +kernel, by decide +kernel⟩, List.mem_of_getElem? (i := 665) (by decide +kernel), List.mem_of_getElem? (i := 758) (by decide +kernel), List.mem_of_getElem? (i := 759) (by decide +kernel)⟩
theorem lw_p29 : lw_okq (⟨"TowerFieldsModel", "are", "(II)Z"⟩, 21) := ⟨⟨by decide +kernel, by decide +kernel⟩, List.mem_of_getElem? (i := 665) (by decide +kernel), List.mem_of_getElem? (i := 770) (by decide +kernel), List.mem_of_getElem? (i := 771) (by decide +kernel)⟩
theorem lw_p30 : lw_okq (⟨"TowerFieldsModel", "isElement", "(I)Z"⟩, 21) := ⟨⟨by decide +kernel, by decide +kernel⟩, List.mem_of_getElem? (i := 665) (by decide +kernel), List.mem_of_getElem? (i := 774) (by decide +kernel), List.mem_of_getElem? (i := 775) (by decide +kernel)⟩
theorem lw_p31 : lw_okq (⟨"TowerFieldsModel", "isLow", "(I)Z"⟩, 21) := ⟨⟨by decide +kernel, by decide +kernel⟩, List.mem_of_getElem? (i := 665) (by decide +kernel), List.mem_of_getElem? (i := 778) (by decide +kernel), List.mem_of_getElem? (i := 779) (by decide +kernel)⟩
def lw_privs_2 : List (MethodName × Nat) := [(⟨"TowerFields$Line", "exchange", "(LTowerFields$Line;)V"⟩, 2), (⟨"TowerFields$Divisor", "leadOf", "(LTowerFields$Poly;LTowerFields$Line;LTowerFields$Line;)V"⟩, 15), (⟨"TowerFields$Divisor", "findImage", "(LTowerFields$Poly;LTowerFields$Poly;I)Z"⟩, 15), (⟨"TowerFields$Divisor", "takeIn", "(I)Z"⟩, 15), (⟨"TowerFields$Divisor", "tryPieced", "(LTowerFields$Poly;LTowerFields$Poly;)Z"⟩, 15), (⟨"TowerFields", "takeTwo", "(II)V"⟩, 15), (⟨"TowerFields", "sumUp", "(I)V"⟩, 15), (⟨"TowerFields", "keepLowest", "()I"⟩, 15), (⟨"TowerFields", "slopeOverProduct", "(LTowerFields$Poly;LTowerFields$Poly;)V"⟩, 15), (⟨"TowerFields", "makeSquareFree", "(LTowerFields$Poly;)V"⟩, 15), (⟨"TowerFields", "splitSquareFree", "(LTowerFields$Poly;I)V"⟩, 15), (⟨"TowerFieldsModel", "one", "([I)V"⟩, 21), (⟨"TowerFieldsModel", "keep", "()I"⟩, 21), (⟨"TowerFieldsModel", "are", "(II)Z"⟩, 21), (⟨"TowerFieldsModel", "isElement", "(I)Z"⟩, 21), (⟨"TowerFieldsModel", "isLow", "(I)Z"⟩, 21)]
theorem lw_r2 : ∀ q ∈ lw_privs_2, lw_okq q := List.forall_mem_cons.mpr ⟨lw_p16, List.forall_mem_cons.mpr ⟨lw_p17, List.forall_mem_cons.mpr ⟨lw_p18, List.forall_mem_cons.mpr ⟨lw_p19, List.forall_mem_cons.mpr ⟨lw_p20, List.forall_mem_cons.mpr ⟨lw_p21, List.forall_mem_cons.mpr ⟨lw_p22, List.forall_mem_cons.mpr ⟨lw_p23, List.forall_mem_cons.mpr ⟨lw_p24, List.forall_mem_cons.mpr ⟨lw_p25, List.forall_mem_cons.mpr ⟨lw_p26, List.forall_mem_cons.mpr ⟨lw_p27, List.forall_mem_cons.mpr ⟨lw_p28, List.forall_mem_cons.mpr ⟨lw_p29, List.forall_mem_cons.mpr ⟨lw_p30, List.forall_mem_cons.mpr ⟨lw_p31, fun _ h => absurd h List.not_mem_nil⟩⟩⟩⟩⟩⟩⟩⟩⟩⟩⟩⟩⟩⟩⟩⟩
theorem lw_p32 : lw_okq (⟨"TowerFieldsModel", "raise", "(I)I"⟩, 21) := ⟨⟨by decide +kernel, by decide +kernel⟩, List.mem_of_getElem? (i := 665) (by decide +kernel), List.mem_of_getElem? (i := 782) (by decide +kernel), List.mem_of_getElem? (i := 783) (by decide +kernel)⟩
theorem lw_p33 : lw_okq (⟨"TowerFieldsModel", "load", "([I[II)V"⟩, 21) := ⟨⟨by decide +kernel, by decide +kernel⟩, List.mem_of_getElem? (i := 665) (by decide +kernel), List.mem_of_getElem? (i := 786) (by decide +kernel), List.mem_of_getElem? (i := 787) (by decide +kernel)⟩
theorem lw_p34 : lw_okq (⟨"TowerFieldsModel", "multiply", "([I[I[I)V"⟩, 21) := ⟨⟨by decide +kernel, by decide +kernel⟩, List.mem_of_getElem? (i := 665) (by decide +kernel), List.mem_of_getElem? (i := 793) (by decide +kernel), List.mem_of_getElem? (i := 794) (by decide +kernel)⟩
theorem lw_p35 : lw_okq (⟨"TowerFieldsModel", "reduce", "()Z"⟩, 21) := ⟨⟨by decide +kernel, by decide +kernel⟩, List.mem_of_getElem? (i := 665) (by decide +kernel), List.mem_of_getElem? (i := 809) (by decide +kernel), List.mem_of_getElem? (i := 810) (by decide +kernel)⟩
theorem lw_p36 : lw_okq (⟨"TowerFieldsModel", "hangs", "([III)Z"⟩, 21) := ⟨⟨by decide +kernel, by decide +kernel⟩, List.mem_of_getElem? (i := 665) (by decide +kernel), List.mem_of_getElem? (i := 813) (by decide +kernel), List.mem_of_getElem? (i := 814) (by decide +kernel)⟩
theorem lw_p37 : lw_okq (⟨"TowerFieldsModel", "settle", "()V"⟩, 21) := ⟨⟨by decide +kernel, by decide +kernel⟩, List.mem_of_getElem? (i := 665) (by decide +kernel), List.mem_of_getElem? (i := 817) (by decide +kernel), List.mem_of_getElem? (i := 818) (by decide +kernel)⟩
theorem lw_p38 : lw_okq (⟨"TowerFieldsModel", "letterItself", "()I"⟩, 21) := ⟨⟨by decide +kernel, by decide +kernel⟩, List.mem_of_getElem? (i := 665) (by decide +kernel), List.mem_of_getElem? (i := 821) (by decide +kernel), List.mem_of_getElem? (i := 822) (by decide +kernel)⟩
theorem lw_p39 : lw_okq (⟨"TowerFieldsModel", "sum", "(III)I"⟩, 21) := ⟨⟨by decide +kernel, by decide +kernel⟩, List.mem_of_getElem? (i := 665) (by decide +kernel), List.mem_of_getElem? (i := 833) (by decide +kernel), List.mem_of_getElem? (i := 834) (by decide +kernel)⟩
theorem lw_p40 : lw_okq (⟨"TowerFieldsModel", "made", "(I)I"⟩, 21) := ⟨⟨by decide +kernel, by decide +kernel⟩, List.mem_of_getElem? (i := 665) (by decide +kernel), List.mem_of_getElem? (i := 837) (by decide +kernel), List.mem_of_getElem? (i := 838) (by decide +kernel)⟩
theorem lw_p41 : lw_okq (⟨"TowerFieldsModel", "deriveUp", "(I)V"⟩, 21) := ⟨⟨by decide +kernel, by decide +kernel⟩, List.mem_of_getElem? (i := 665) (by decide +kernel), List.mem_of_getElem? (i := 857) (by decide +kernel), List.mem_of_getElem? (i := 858) (by decide +kernel)⟩
theorem lw_p42 : lw_okq (⟨"TowerFieldsModel", "deriveRow", "([I[I)V"⟩, 21) := ⟨⟨by decide +kernel, by decide +kernel⟩, List.mem_of_getElem? (i := 665) (by decide +kernel), List.mem_of_getElem? (i := 861) (by decide +kernel), List.mem_of_getElem? (i := 862) (by decide +kernel)⟩
theorem lw_p43 : lw_okq (⟨"TowerFieldsModel", "finish", "([I[I)V"⟩, 21) := ⟨⟨by decide +kernel, by decide +kernel⟩, List.mem_of_getElem? (i := 665) (by decide +kernel), List.mem_of_getElem? (i := 865) (by decide +kernel), List.mem_of_getElem? (i := 866) (by decide +kernel)⟩
theorem lw_p44 : lw_okq (⟨"TowerFieldsModel", "shared", "()V"⟩, 21) := ⟨⟨by decide +kernel, by decide +kernel⟩, List.mem_of_getElem? (i := 665) (by decide +kernel), List.mem_of_getElem? (i := 877) (by decide +kernel), List.mem_of_getElem? (i := 878) (by decide +kernel)⟩
theorem lw_p45 : lw_okq (⟨"TowerFieldsModel", "makeMonic", "([I)V"⟩, 21) := ⟨⟨by decide +kernel, by decide +kernel⟩, List.mem_of_getElem? (i := 665) (by decide +kernel), List.mem_of_getElem? (i := 881) (by decide +kernel), List.mem_of_getElem? (i := 882) (by decide +kernel)⟩
theorem lw_p46 : lw_okq (⟨"TowerFieldsModel", "divide", "([I)V"⟩, 21) := ⟨⟨by decide +kernel, by decide +kernel⟩, List.mem_of_getElem? (i := 665) (by decide +kernel), List.mem_of_getElem? (i := 885) (by decide +kernel), List.mem_of_getElem? (i := 886) (by decide +kernel)⟩
theorem lw_p47 : lw_okq (⟨"TowerFieldsModel", "bare", "()V"⟩, 21) := ⟨⟨by decide +kernel, by decide +kernel⟩, List.mem_of_getElem? (i := 665) (by decide +kernel), List.mem_of_getElem? (i := 893) (by decide +kernel), List.mem_of_getElem? (i := 894) (by decide +kernel)⟩
def lw_privs_3 : List (MethodName × Nat) := [(⟨"TowerFieldsModel", "raise", "(I)I"⟩, 21), (⟨"TowerFieldsModel", "load", "([I[II)V"⟩, 21), (⟨"TowerFieldsModel", "multiply", "([I[I[I)V"⟩, 21), (⟨"TowerFieldsModel", "reduce", "()Z"⟩, 21), (⟨"TowerFieldsModel", "hangs", "([III)Z"⟩, 21), (⟨"TowerFieldsModel", "settle", "()V"⟩, 21), (⟨"TowerFieldsModel", "letterItself", "()I"⟩, 21), (⟨"TowerFieldsModel", "sum", "(III)I"⟩, 21), (⟨"TowerFieldsModel", "made", "(I)I"⟩, 21), (⟨"TowerFieldsModel", "deriveUp", "(I)V"⟩, 21), (⟨"TowerFieldsModel", "deriveRow", "([I[I)V"⟩, 21), (⟨"TowerFieldsModel", "finish", "([I[I)V"⟩, 21), (⟨"TowerFieldsModel", "shared", "()V"⟩, 21), (⟨"TowerFieldsModel", "makeMonic", "([I)V"⟩, 21), (⟨"TowerFieldsModel", "divide", "([I)V"⟩, 21), (⟨"TowerFieldsModel", "bare", "()V"⟩, 21)]
theorem lw_r3 : ∀ q ∈ lw_privs_3, lw_okq q := List.forall_mem_cons.mpr ⟨lw_p32, List.forall_mem_cons.mpr ⟨lw_p33, List.forall_mem_cons.mpr ⟨lw_p34, List.forall_mem_cons.mpr ⟨lw_p35, List.forall_mem_cons.mpr ⟨lw_p36, List.forall_mem_cons.mpr ⟨lw_p37, List.forall_mem_cons.mpr ⟨lw_p38, List.forall_mem_cons.mpr ⟨lw_p39, List.forall_mem_cons.mpr ⟨lw_p40, List.forall_mem_cons.mpr ⟨lw_p41, List.forall_mem_cons.mpr ⟨lw_p42, List.forall_mem_cons.mpr ⟨lw_p43, List.forall_mem_cons.mpr ⟨lw_p44, List.forall_mem_cons.mpr ⟨lw_p45, List.forall_mem_cons.mpr ⟨lw_p46, List.forall_mem_cons.mpr ⟨lw_p47, fun _ h => absurd h List.not_mem_nil⟩⟩⟩⟩⟩⟩⟩⟩⟩⟩⟩⟩⟩⟩⟩⟩
def lw_privs : List (MethodName × Nat) := lw_privs_1 ++ (lw_privs_2 ++ (lw_privs_3))
def lw_tbl : List Cond := k2_sels lw_privs ++ tables_1
theorem lw_privs_ok : ∀ q ∈ lw_privs, lw_okq q := by
  show ∀ q ∈ lw_privs_1 ++ (lw_privs_2 ++ (lw_privs_3)), lw_okq q
  exact List.forall_mem_append.mpr ⟨lw_r1, List.forall_mem_append.mpr ⟨lw_r2, lw_r3⟩⟩
end
section
/-! ===== BEGIN words of one list among another's, by their places ===== -/
theorem goodIn_r {big : List Cond} (ws : List Cond) (ps : List Nat) (hp : ws = ps.filterMap (fun i => big[i]?)) (h : ws.all goodWord = true) : GoodIn big ws := by
  intro w hw
  have h1 := List.all_eq_true.mp h w hw
  rw [hp] at hw
  obtain ⟨i, -, hi⟩ := List.mem_filterMap.mp hw
  have hm : w ∈ big := by first | exact List.mem_of_getElem? hi | exact List.getElem?_mem hi
  exact ⟨hm, good_of_word h1⟩
theorem goodIn_app {big a b : List Cond} (ha : GoodIn big a) (hb : GoodIn big b) : GoodIn big (a ++ b) := fun w h => (List.mem_append.mp h).elim (ha w) (hb w)
theorem goodIn_ca {big a b : List Cond} {c : Cond} (ha : GoodIn big (c :: a)) (hb : GoodIn big b) : GoodIn big (c :: (a ++ b)) := fun w h => (List.mem_cons.mp h).elim (fun e => ha w (List.mem_cons.mpr (Or.inl e))) (fun h => (List.mem_append.mp h).elim (fun h => ha w (List.mem_cons.mpr (Or.inr h))) (hb w))
theorem goodIn_sub {big ws : List Cond} (hm : ∀ w ∈ ws, w ∈ big) (h : ws.all goodWord = true) : GoodIn big ws := fun w hw => ⟨hm w hw, good_of_word (List.all_eq_true.mp h w hw)⟩
/-! ===== END ===== -/

/-! ===== BEGIN exceptions that leave a method, and their catching by the caller (launches without stack traces) ===== -/
section VXA
/-! The laws vx_back, vx_callV, vx_callS, vx_callSW, vx_throw0, vx_throwS follow proofs of the library, with one case more: JvmDerived/Free/Laws.lean (Back.of_free), Shelf42/LK1.lean (callV, callS), Shelf/KitTraced.lean (throwNew0V, throwNewS). -/
/-- where a method has thrown q: the class by its name, the cell, what was written, the world -/
def vx_T (XC : String → State → State → Prop) (st : State) (q : Addr) (t : State) (mc ms : Nat) (free : Addr → Prop) : Prop :=
  ∃ (E : String) (ce : Cell) (L : List Loc), XC E st t ∧ t.heap[q]? = some ce ∧ ce.vm = .none ∧ st.vm.findClass E = some ce.cls ∧ st.WarmedH t.vm ∧ st.sameButNew ({ t with vm := st.vm } : State) L mc ms ∧ ∀ z ∈ L, free z.base
def vx_Q (Qc : Array Value → State → Outcome → State → Prop) (XC : String → State → State → Prop) (mc ms : Nat) (free : Addr → Prop) : Array Value → State → Outcome → State → Prop := fun a st o t =>
  (Qc a st o t ∧ ∃ L, FrameEnd st o t L mc ms ∧ ∀ q ∈ L, free q.base) ∨ ∃ q, o = .threw q ∧ vx_T XC st q t mc ms free
/-- a callee that returns or throws -/
def vx_Met (l : Launch) (y : MethodName) (ws : List Cond) (rm : Room) (Pc : Array Value → State → Prop) (Qc : Array Value → State → Outcome → State → Prop) (XC : String → State → State → Prop) (mc ms : Nat) (free : Addr → Prop) : Prop :=
  MetFree l y (headSpec ws rm) Pc (fun _ _ _ _ _ => True) (vx_Q Qc XC mc ms free)
def vx_Post (XC : String → State → State → Prop) (mc ms : Nat) (free : Addr → Prop) : Pt → Array Value → Addr → Pt → Prop := fun A a q B =>
  ∃ (g : JFrame) (mk : MethodId) (t : State) (L : List Loc) (E : String) (ce : Cell), B.U.heap = t.heap ∧ B.U.vm = t.vm ∧ XC E (A.U.calling g mk a) t ∧ t.heap[q]? = some ce ∧ ce.vm = .none ∧ A.U.vm.findClass E = some ce.cls ∧ B.locs = A.locs ++ L ∧ (∀ z ∈ L, free z.base) ∧ B.cells = A.cells + mc ∧ B.slots = A.slots + ms
def vx_Back (l : Launch) (R : Room) (p : Program) (e : Env) (below : List Frame) (s : State) (sargs : Array Value) (y : MethodName) (len W9 : Nat)
    (Pre : Pt → Array Value → Prop) (Post : Pt → Array Value → Option Value → Pt → Prop) (PostX : Pt → Array Value → Addr → Pt → Prop) : Prop :=
  ∀ (m : MethodId) (meth : Method) (c : Code) (A : Pt) (g : JFrame) (ig : Instr) (mk : MethodId) (a : Array Value),
    Stand p l e R s m sargs below meth c A.U A.locs A.cells A.slots → g.method = m → g.locals.size = c.maxLocals → decode c.code g.pc = .ok (ig, len) →
    2 * g.monitorRoom + (g.stack.map fun v => v.category).sum ≤ W9 → A.U.methodNamed? y = some mk → Pre A a →
    (∃ (v : Option Value) (B : Pt), Stand p l e R s m sargs below meth c B.U B.locs B.cells B.slots ∧ Post A a v B ∧
      Steps p.tables e below (doInvoke e (A.U.setTop g) [] mk a).1 (B.U.setTop { g with pc := g.pc + len, stack := v.toList ++ g.stack })) ∨
    (∃ (q : Addr) (B : Pt), Stand p l e R s m sargs below meth c B.U B.locs B.cells B.slots ∧ PostX A a q B ∧
      Steps p.tables e below (doInvoke e (A.U.setTop g) [] mk a).1 ((B.U.setTop g).pushFrame (.throwing q)))
section Payer
variable {l : Launch} {R : Room} {p : Program} {e : Env} {below : List Frame} {s : State} {sargs : Array Value} {y : MethodName} {len W9 : Nat}
theorem vx_back {ws : List Cond} {rm : Room} {Pc : Array Value → State → Prop} {Qc : Array Value → State → Outcome → State → Prop} {XC : String → State → State → Prop} {mc ms : Nat} {free : Addr → Prop} {bytes : ByteArray} {maxL : Nat} {ret : Option FieldType}
    (hM : vx_Met l y ws rm Pc Qc XC mc ms free) (hblind : FrameBlind Pc) (hrc : rm.cells = mc) (hrs : rm.slots = ms)
    (hframes : rm.frames + 1 ≤ R.frames) (hlocals : W9 + (maxL + 11) + rm.locals ≤ R.locals)
    (hws : ∀ w ∈ ws, ∀ a' U, s.WarmedH U.vm → w.before a' U = true) (hcode : Cond.code y bytes maxL ret ∈ ws) (hinit : ∀ a' U, s.WarmedH U.vm → (Cond.initialized y.cls).before a' U = true) :
    vx_Back l R p e below s sargs y len W9 (PreOf R mc ms Pc) (PostOf Qc mc ms free) (vx_Post XC mc ms free) := by
  intro m meth c A g ig mk a X hg hsize hdg hW hn hp
  have h1 : (headSpec ws rm).pre.before a A.U = true := atoms_intro fun w hw => hws w hw _ _ X.warmed
  have h2 : (Cond.code y bytes maxL ret).before a A.U = true := hws _ hcode _ _ X.warmed
  have h3 : (Cond.initialized y.cls).before a A.U = true := hinit _ _ X.warmed
  have h4 : A.cells + (headSpec ws rm).room.cells ≤ R.cells := by rw [show (headSpec ws rm).room.cells = mc from hrc]; exact hp.1
  have h5 : A.slots + (headSpec ws rm).room.slots ≤ R.slots := by rw [show (headSpec ws rm).room.slots = ms from hrs]; exact hp.2.1
  have hPc : Pc a (A.U.calling g mk a) := hblind _ _ _ _ hp.2.2
  obtain ⟨U, Ls, c0, s0⟩ := A
  dsimp only [Pt.U, Pt.locs, Pt.cells, Pt.slots] at h1 h2 h3 h4 h5 X hn hPc ⊢
  obtain ⟨methY, cY, hmY, hcY, -, hlY, -, -, -, -⟩ := Cond.code_spec hn h2
  obtain ⟨kY, hkY, -⟩ := className_of_methodNamed hn
  have hinitY : kY.init = .initialized := Cond.initialized_spec (findClass_of_methodNamed hn) hkY h3
  have h : At U g.method c below := by rw [hg]; exact X.here
  have hlocals9 : W9 + (maxL + 11) + (headSpec ws rm).room.locals ≤ R.locals := hlocals
  have happ : (headSpec ws rm).appliesLoose y e.platform (U.calling g mk a) = true :=
    Spec.appliesLoose_calling (g := g) h hdg hn hkY hinitY
      (X.room_calling (g := g) (R' := (headSpec ws rm).room) hsize hmY hcY hframes (by rw [hlY]; omega) h4 h5) h1
  obtain ⟨mid, hmid⟩ := h.above
  have hfr : (U.setTop g).frames = (.java g :: mid) ++ below := by rw [State.frames_setTop' g h.top, hmid]; rfl
  obtain ⟨o, s₂, hsteps, -, hend, hq⟩ := Steps.callFree hM p X.admits X.cas X.clock (acts := []) hfr happ hPc trivial
  have hq' : vx_Q Qc XC mc ms free a (U.calling g mk a) o s₂ := hq
  rw [State.frames_setTop' g h.top] at hend
  obtain ⟨g₀, hg0⟩ := Option.isSome_iff_exists.mp h.top
  obtain ⟨r, hr⟩ := State.topJava?_eq_some.mp hg0
  have hr' : (({ U with heap := s₂.heap, slotsUsed := s₂.slotsUsed } : State).setVm s₂.vm).frames = .java g₀ :: r := hr
  rcases hq' with ⟨hqc, L, hfe, hL⟩ | ⟨q, rfl, E, ce, L, hx, hce, hcv, hcl, hW₂, hsm, hL⟩
  · obtain ⟨⟨v, rfl⟩, hW₂, e2, q2, q3, q4, q5, q6⟩ := id hfe
    have e3 : s₂ = ({ (U.calling g mk a).setFrames s₂.frames with heap := s₂.heap, slotsUsed := s₂.slotsUsed } : State).setVm s₂.vm := by
      have : s₂ = ({ s₂ with vm := (U.calling g mk a).vm } : State).setVm s₂.vm := rfl
      rw [e2] at this
      exact this
    obtain ⟨c₂, i₂, len₂, hc₂, hd₂, hf₂⟩ := hend
    have hW' : U.WarmedH s₂.vm := hW₂
    have hcc : c₂ = c := by
      have h1 : s₂.code? g.method = U.code? g.method := by
        rw [State.code?_eq, State.code?_eq, hW'.alike.method?]
      exact Option.some.inj (hc₂.symm.trans (h1.trans h.code))
    subst hcc
    have hlen : len₂ = len := by rw [hdg] at hd₂; cases hd₂; rfl
    subst hlen
    have hs₂ : s₂ = (({ U with heap := s₂.heap, slotsUsed := s₂.slotsUsed } : State).setVm s₂.vm).setTop { g with pc := g.pc + len₂, stack := v.toList ++ g.stack } := by
      refine e3.trans ?_
      rw [hf₂, State.calling_eq h.top, State.setFrames_setFrames, State.setTop_of_frames _ hr', hr]
      rfl
    have hsame : U.sameButNew ({ U with heap := s₂.heap, slotsUsed := s₂.slotsUsed } : State) L mc ms := by
      refine ⟨?_, q2, q3, q4, q5, q6⟩
      obtain ⟨t, ht, -⟩ := State.frames_cons hr
      show ({ U with heap := s₂.heap, slotsUsed := s₂.slotsUsed } : State) = { U.setFrames U.frames with heap := s₂.heap, slotsUsed := s₂.slotsUsed }
      rw [State.setFrames_self ht]
    subst hg
    refine Or.inl ⟨v, ⟨(({ U with heap := s₂.heap, slotsUsed := s₂.slotsUsed } : State).setVm s₂.vm), Ls ++ L, c0 + mc, s0 + ms⟩,
      ⟨X.admits, X.cas, X.clock, X.frames, X.room, X.hears, X.method, X.code, (X.here.setHeapUsed s₂.heap s₂.slotsUsed).setVm hW'.alike, X.tail, State.WarmedH.trans X.warmed hW', X.limits, X.bytes, X.same.trans (hsame.setVm s.vm)⟩,
      ⟨g, mk, s₂, L, rfl, rfl, hqc, rfl, hL, rfl, rfl⟩, ?_⟩
    show Steps p.tables e below _ ((({ U with heap := s₂.heap, slotsUsed := s₂.slotsUsed } : State).setVm s₂.vm).setTop { g with pc := g.pc + len₂, stack := v.toList ++ g.stack })
    rw [← hs₂]
    exact hsteps
  · obtain ⟨e2, q2, q3, q4, q5, q6⟩ := id hsm
    have e3 : s₂ = ({ (U.calling g mk a).setFrames s₂.frames with heap := s₂.heap, slotsUsed := s₂.slotsUsed } : State).setVm s₂.vm := by
      have : s₂ = ({ s₂ with vm := (U.calling g mk a).vm } : State).setVm s₂.vm := rfl
      rw [e2] at this
      exact this
    have hf₂ : s₂.frames = .throwing q :: .java g :: U.frames.tail := hend
    have hW' : U.WarmedH s₂.vm := hW₂
    have hs₂ : s₂ = ((({ U with heap := s₂.heap, slotsUsed := s₂.slotsUsed } : State).setVm s₂.vm).setTop g).pushFrame (.throwing q) := by
      refine e3.trans ?_
      rw [hf₂, State.calling_eq h.top, State.setFrames_setFrames, State.pushFrame, State.frames_setTop _ hr', State.setTop_of_frames _ hr', State.setFrames_setFrames, hr]
      rfl
    have hsame : U.sameButNew ({ U with heap := s₂.heap, slotsUsed := s₂.slotsUsed } : State) L mc ms := by
      refine ⟨?_, q2, q3, q4, q5, q6⟩
      obtain ⟨t, ht, -⟩ := State.frames_cons hr
      show ({ U with heap := s₂.heap, slotsUsed := s₂.slotsUsed } : State) = { U.setFrames U.frames with heap := s₂.heap, slotsUsed := s₂.slotsUsed }
      rw [State.setFrames_self ht]
    subst hg
    refine Or.inr ⟨q, ⟨(({ U with heap := s₂.heap, slotsUsed := s₂.slotsUsed } : State).setVm s₂.vm), Ls ++ L, c0 + mc, s0 + ms⟩,
      ⟨X.admits, X.cas, X.clock, X.frames, X.room, X.hears, X.method, X.code, (X.here.setHeapUsed s₂.heap s₂.slotsUsed).setVm hW'.alike, X.tail, State.WarmedH.trans X.warmed hW', X.limits, X.bytes, X.same.trans (hsame.setVm s.vm)⟩,
      ⟨g, mk, s₂, L, E, ce, rfl, rfl, hx, hce, hcv, hcl, rfl, hL, rfl, rfl⟩, ?_⟩
    show Steps p.tables e below _ (((({ U with heap := s₂.heap, slotsUsed := s₂.slotsUsed } : State).setVm s₂.vm).setTop g).pushFrame (.throwing q))
    rw [← hs₂]
    exact hsteps
end Payer
section Calls
variable {p : Program} {l : Launch} {e : Env} {R : Room} {s : State} {m : MethodId} {args : Array Value} {below : List Frame} {meth : Method} {c : Code} {T : State} {locs : List Loc} {cells slots : Nat}
theorem vx_callV (X : Stand p l e R s m args below meth c T locs cells slots) (hexec : p.tables.exec = Jvm.exec) {own C : String} {index : Nat} {y : MethodName} {bytes : ByteArray} {maxL : Nat} {ret : Option FieldType}
    (hown : s.vm.findClass own = some m.cls) (hlink : (Cond.methodLink own index y).before args s = true) (hinst : (Cond.instanceMethod y).before args s = true) (hsel : (Cond.selects C y y).before args s = true)
    (hcode : (Cond.code y bytes maxL ret).before args s = true) (hy : y.cls ≠ "java/lang/invoke/MethodHandle" ∧ y.cls ≠ "java/lang/invoke/VarHandle")
    {W9 : Nat} {Pre : Pt → Array Value → Prop} {Post : Pt → Array Value → Option Value → Pt → Prop} {PostX : Pt → Array Value → Addr → Pt → Prop} (hK : vx_Back l R p e below s args y 3 W9 Pre Post PostX)
    {b : Addr} {cellB : Cell} (hcell : T.heap[b]? = some cellB) (hobj : cellB.vm.isStatics = false) (hcls : s.vm.findClass C = some cellB.cls)
    {g : JFrame} (hg : g.method = m) (hsize : g.locals.size = c.maxLocals) {argsL rest : List Value} (hlen : ∀ sig, parseMethodDescriptor y.desc = some sig → argsL.length = sig.parameters.length)
    (hstack : g.stack = argsL.reverse ++ .ref b :: rest) (hW : 2 * g.monitorRoom + (rest.map fun v => v.category).sum ≤ W9) (hdg : decode c.code g.pc = .ok (.invokevirtual index, 3))
    (hpre : ∀ vm₁, s.WarmedH vm₁ → Pre ⟨T.setVm vm₁, locs, cells, slots⟩ (Value.ref b :: argsL).toArray) :
    (∃ (v : Option Value) (vm₁ : Vm) (B : Pt), s.WarmedH vm₁ ∧ Stand p l e R s m args below meth c B.U B.locs B.cells B.slots ∧ Post ⟨T.setVm vm₁, locs, cells, slots⟩ (Value.ref b :: argsL).toArray v B ∧
      ∀ target, Steps p.tables e below (B.U.setTop { g with pc := g.pc + 3, stack := v.toList ++ rest }) target → Steps p.tables e below (T.setTop g) target) ∨
    (∃ (q : Addr) (vm₁ : Vm) (B : Pt), s.WarmedH vm₁ ∧ Stand p l e R s m args below meth c B.U B.locs B.cells B.slots ∧ PostX ⟨T.setVm vm₁, locs, cells, slots⟩ (Value.ref b :: argsL).toArray q B ∧
      Steps p.tables e below (T.setTop g) ((B.U.setTop { g with stack := rest }).pushFrame (.throwing q))) := by
  obtain ⟨mk, methM, hnamed, hmethM, hstM, habM⟩ := Cond.instanceMethod_spec hinst
  obtain ⟨methM', cM, hmethM', -, -, -, -, -, -, hsigM⟩ := Cond.code_spec hnamed hcode
  cases hmethM.symm.trans hmethM'
  obtain ⟨c2, r2, m2, q1, q2, q3, q4, kP, hkP, hkPi⟩ := Cond.selects_spec hsel
  cases hcls.symm.trans q1
  cases (State.methodFound?_of_named hnamed hy).symm.trans q2
  cases hnamed.symm.trans q3
  have hselP : selectMethod e.platform s.vm cellB.cls mk = .method mk := by rw [Launch.admits_selectMethod X.admits]; exact q4
  obtain ⟨vm₁, X₁, hstep₁⟩ := X.invokevirtual hexec hown hlink hnamed hmethM hstM hkP hkPi hy (a := b) (cell := cellB) hcell
    (fun z h => by rw [h] at hobj; cases hobj) hselP hmethM habM hkP hkPi (g := g) hg (argsL := argsL) (rest := rest) (hlen _ hsigM) hstack hdg
  rcases hK m meth c ⟨T.setVm vm₁, locs, cells, slots⟩ { g with stack := rest } (.invokevirtual index) mk (Value.ref b :: argsL).toArray X₁ hg hsize hdg hW (X₁.named hnamed) (hpre vm₁ X₁.warmed) with ⟨v, B, X', hpost, hsteps⟩ | ⟨q, B, X', hpost, hsteps⟩
  · exact Or.inl ⟨v, vm₁, B, X₁.warmed, X', hpost, fun target h => hstep₁ _ fun acts => by rw [doInvoke_state]; exact hsteps.trans h⟩
  · exact Or.inr ⟨q, vm₁, B, X₁.warmed, X', hpost, hstep₁ _ fun acts => by rw [doInvoke_state]; exact hsteps⟩
theorem vx_callS (X : Stand p l e R s m args below meth c T locs cells slots) (hexec : p.tables.exec = Jvm.exec) {own : String} {index : Nat} {y : MethodName} {bytes : ByteArray} {maxL : Nat} {ret : Option FieldType}
    (hown : s.vm.findClass own = some m.cls) (hlink : (Cond.methodLink own index y).before args s = true) (hstat : (Cond.static y).before args s = true) (hinit : (Cond.initialized y.cls).before args s = true)
    (hcode : (Cond.code y bytes maxL ret).before args s = true) (hy : y.cls ≠ "java/lang/invoke/MethodHandle" ∧ y.cls ≠ "java/lang/invoke/VarHandle")
    {W9 : Nat} {Pre : Pt → Array Value → Prop} {Post : Pt → Array Value → Option Value → Pt → Prop} {PostX : Pt → Array Value → Addr → Pt → Prop} (hK : vx_Back l R p e below s args y 3 W9 Pre Post PostX)
    {g : JFrame} (hg : g.method = m) (hsize : g.locals.size = c.maxLocals) {argsL rest : List Value} (hlen : ∀ sig, parseMethodDescriptor y.desc = some sig → argsL.length = sig.parameters.length)
    (hstack : g.stack = argsL.reverse ++ rest) (hW : 2 * g.monitorRoom + (rest.map fun v => v.category).sum ≤ W9) (hdg : decode c.code g.pc = .ok (.invokestatic index, 3))
    (hpre : ∀ vm₁, s.WarmedH vm₁ → Pre ⟨T.setVm vm₁, locs, cells, slots⟩ argsL.toArray) :
    (∃ (v : Option Value) (vm₁ : Vm) (B : Pt), s.WarmedH vm₁ ∧ Stand p l e R s m args below meth c B.U B.locs B.cells B.slots ∧ Post ⟨T.setVm vm₁, locs, cells, slots⟩ argsL.toArray v B ∧
      ∀ target, Steps p.tables e below (B.U.setTop { g with pc := g.pc + 3, stack := v.toList ++ rest }) target → Steps p.tables e below (T.setTop g) target) ∨
    (∃ (q : Addr) (vm₁ : Vm) (B : Pt), s.WarmedH vm₁ ∧ Stand p l e R s m args below meth c B.U B.locs B.cells B.slots ∧ PostX ⟨T.setVm vm₁, locs, cells, slots⟩ argsL.toArray q B ∧
      Steps p.tables e below (T.setTop g) ((B.U.setTop { g with stack := rest }).pushFrame (.throwing q))) := by
  obtain ⟨mk, hnamed⟩ := Cond.code_named hcode
  obtain ⟨methM, cM, hmethM, -, -, -, -, -, -, hsigM⟩ := Cond.code_spec hnamed hcode
  have hstatic : methM.isStatic = true := Cond.static_spec hnamed hmethM hstat
  obtain ⟨kP, hkP, -⟩ := className_of_methodNamed hnamed
  have hinitP : kP.init = .initialized := Cond.initialized_spec (findClass_of_methodNamed hnamed) hkP hinit
  obtain ⟨vm₁, X₁, hstep₁⟩ := X.invokestatic hexec hown hlink hnamed hmethM hstatic hkP hinitP hy (g := g) hg (argsL := argsL) (rest := rest) (hlen _ hsigM) hstack hdg
  rcases hK m meth c ⟨T.setVm vm₁, locs, cells, slots⟩ { g with stack := rest } (.invokestatic index) mk argsL.toArray X₁ hg hsize hdg hW (X₁.named hnamed) (hpre vm₁ X₁.warmed) with ⟨v, B, X', hpost, hsteps⟩ | ⟨q, B, X', hpost, hsteps⟩
  · exact Or.inl ⟨v, vm₁, B, X₁.warmed, X', hpost, fun target h => hstep₁ _ fun acts => by rw [doInvoke_state]; exact hsteps.trans h⟩
  · exact Or.inr ⟨q, vm₁, B, X₁.warmed, X', hpost, hstep₁ _ fun acts => by rw [doInvoke_state]; exact hsteps⟩
end Calls
theorem vx_cls {s : State} {T : State} {vm₁ : Vm} {E : String} {k : ClassId} (hW : s.WarmedH vm₁) (h : (T.setVm vm₁).vm.findClass E = some k) : s.vm.findClass E = some k := by
  have h1 : vm₁.findClass E = some k := h
  rw [hW.alike.findClass] at h1
  exact h1
/-- the method's frame g, with q thrown over it -/
def vx_W (p : Program) (l : Launch) (e : Env) (R : Room) (s : State) (m : MethodId) (args : Array Value) (below : List Frame) (meth : Method) (c : Code) (H : Heap) (locs : List Loc) (cells slots : Nat) (Q : State → Prop) (g : JFrame) (q : Addr) : Prop :=
  ∀ T : State, T.heap = H → Stand p l e R s m args below meth c T locs cells slots → ∃ t, Steps p.tables e below ((T.setTop g).pushFrame (.throwing q)) t ∧ Q t
def vx_Run (p : Program) (l : Launch) (e : Env) (R : Room) (s : State) (m : MethodId) (args : Array Value) (below : List Frame) (meth : Method) (c : Code) (H : Heap) (locs : List Loc) (cells slots mc ms : Nat) (g : JFrame) (rest : List Value) (Qa : State → Outcome → State → Prop) (XC : String → State → State → Prop) (free : Addr → Prop) : Prop :=
  ∀ T : State, T.heap = H → Stand p l e R s m args below meth c T locs cells slots →
    (∃ (v : Option Value) (st₀ t T' : State) (L : List Loc), st₀.heap = H ∧ Stand p l e R s m args below meth c T' (locs ++ L) (cells + mc) (slots + ms) ∧ (∀ q ∈ L, free q.base) ∧ T'.heap = t.heap ∧ T'.vm = t.vm ∧ Qa st₀ (.returned v) t ∧
      Goes p e below T g T' { g with pc := g.pc + 3, stack := v.toList ++ rest }) ∨
    (∃ (q : Addr) (st₀ t T' : State) (L : List Loc) (E : String) (ce : Cell), st₀.heap = H ∧ Stand p l e R s m args below meth c T' (locs ++ L) (cells + mc) (slots + ms) ∧ (∀ z ∈ L, free z.base) ∧ T'.heap = t.heap ∧ T'.vm = t.vm ∧ XC E st₀ t ∧ t.heap[q]? = some ce ∧ ce.vm = .none ∧ s.vm.findClass E = some ce.cls ∧
      Steps p.tables e below (T.setTop g) ((T'.setTop { g with stack := rest }).pushFrame (.throwing q)))
def vx_X {S : Type} (px : S → Prop) (B : String → S → State → Prop) (A : Nat → Prop) : String → State → State → Prop := fun E st t => ∃ u : S, px u ∧ B E u t ∧ va_F A st t
section Runs
variable {p : Program} {l : Launch} {e : Env} {R : Room} {s : State} {m : MethodId} {args : Array Value} {below : List Frame} {meth : Method} {c : Code} {H : Heap} {locs : List Loc} {cells slots : Nat}
variable {y : MethodName} {bytes cc : ByteArray} {maxL nL mc ms n index : Nat} {ret : Option FieldType} {ws : List Cond} {rm : Room} {Pc : Array Value → State → Prop} {Qc : Array Value → State → Outcome → State → Prop} {XC : String → State → State → Prop} {free : Addr → Prop} {Ts : List Cond} {own C : String} {b : Addr} {As rest : List Value} {g : JFrame}
theorem vx_callBack (cb : CallB R s args own index y bytes maxL ret ws rm mc ms n) (hM : vx_Met l y ws rm Pc Qc XC mc ms free) (hbl : FrameBlind Pc) : vx_Back l R p e below s args y 3 8 (PreOf R mc ms Pc) (PostOf Qc mc ms free) (vx_Post XC mc ms free) := by
  obtain ⟨hrc, hrs, hfr, hlo, hws, hcw, -, hini, -⟩ := cb
  exact vx_back (bytes := bytes) (maxL := maxL) (ret := ret) hM hbl hrc hrs hfr hlo hws hcw (fun a' U hW => word_at hW (Or.inl (by first | rfl | simp [Cond.onTables, Cond.keeps, Cond.steady])) hini)
theorem vx_runV (S : CallFix p m c cc nL s args Ts own) (hM : vx_Met l y ws rm Pc Qc XC mc ms free) (cw : CallW R s args own C index y bytes maxL ret ws rm mc ms n) (hp : PreV s H C b Pc As)
    (hg : g.method = m) (hn : As.length = n) (hsize : g.locals.size = nL) (hstack : g.stack = As.reverse ++ .ref b :: rest) (hW : 2 * g.monitorRoom + (rest.map fun v => v.category).sum ≤ 8) (hdg : decode cc g.pc = .ok (.invokevirtual index, 3)) (hf : cells + mc ≤ R.cells ∧ slots + ms ≤ R.slots) :
    vx_Run p l e R s m args below meth c H locs cells slots mc ms g rest (Qc (Value.ref b :: As).toArray) XC free := by
  have hK : vx_Back l R p e below s args y 3 8 (PreOf R mc ms Pc) (PostOf Qc mc ms free) (vx_Post XC mc ms free) := vx_callBack cw.1 hM hp.1
  obtain ⟨⟨-, -, -, -, -, -, hcode, -, hy, hlen, hl⟩, hin, hse⟩ := cw
  obtain ⟨hx, hb, hml, ho, -⟩ := S
  obtain ⟨-, ⟨cellB, hcB, hoB, hclB⟩, hPc⟩ := hp
  intro T hT X
  rcases vx_callV X hx (C := C) (bytes := bytes) (maxL := maxL) (ret := ret) ho hl hin hse hcode hy hK (by rw [hT]; exact hcB) hoB hclB hg (hsize.trans hml.symm) (argsL := As) (rest := rest) (fun sig h => hn.trans (hlen sig h)) hstack hW (by rw [hb]; exact hdg)
    (fun vm₁ hW₁ => ⟨hf.1, hf.2, hPc (T.setVm vm₁) hT hW₁⟩) with ⟨v, vm₁, ⟨U', l2, c2, s2⟩, hW₁, X', ⟨g', mk, t, L, e1, e2, hq, h1, hL, h2, h3⟩, st⟩ | ⟨q, vm₁, ⟨U', l2, c2, s2⟩, hW₁, X', ⟨g', mk, t, L, E, ce, e1, e2, hq, hce, hcv, hcl, h1, hL, h2, h3⟩, st⟩
  · dsimp only [Pt.U, Pt.locs, Pt.cells, Pt.slots] at X' e1 e2 h1 h2 h3 st
    subst h1; subst h2; subst h3
    exact Or.inl ⟨v, (T.setVm vm₁).calling g' mk (Value.ref b :: As).toArray, t, U', L, hT, X', hL, e1, e2, hq, st⟩
  · dsimp only [Pt.U, Pt.locs, Pt.cells, Pt.slots] at X' e1 e2 h1 h2 h3 st hcl
    subst h1; subst h2; subst h3
    exact Or.inr ⟨q, (T.setVm vm₁).calling g' mk (Value.ref b :: As).toArray, t, U', L, E, ce, hT, X', hL, e1, e2, hq, hce, hcv, vx_cls hW₁ hcl, st⟩
theorem vx_runS (S : CallFix p m c cc nL s args Ts own) (hM : vx_Met l y ws rm Pc Qc XC mc ms free) (cw : CallB R s args own index y bytes maxL ret ws rm mc ms n ∧ (Cond.static y).before args s = true) (hp : PreS s H Pc As)
    (hg : g.method = m) (hn : As.length = n) (hsize : g.locals.size = nL) (hstack : g.stack = As.reverse ++ rest) (hW : 2 * g.monitorRoom + (rest.map fun v => v.category).sum ≤ 8) (hdg : decode cc g.pc = .ok (.invokestatic index, 3)) (hf : cells + mc ≤ R.cells ∧ slots + ms ≤ R.slots) :
    vx_Run p l e R s m args below meth c H locs cells slots mc ms g rest (Qc As.toArray) XC free := by
  have hK : vx_Back l R p e below s args y 3 8 (PreOf R mc ms Pc) (PostOf Qc mc ms free) (vx_Post XC mc ms free) := vx_callBack cw.1 hM hp.1
  obtain ⟨⟨-, -, -, -, -, -, hcode, hini, hy, hlen, hl⟩, hstt⟩ := cw
  obtain ⟨hx, hb, hml, ho, -⟩ := S
  intro T hT X
  rcases vx_callS X hx (bytes := bytes) (maxL := maxL) (ret := ret) ho hl hstt hini hcode hy hK hg (hsize.trans hml.symm) (argsL := As) (rest := rest) (fun sig h => hn.trans (hlen sig h)) hstack hW (by rw [hb]; exact hdg)
    (fun vm₁ hW₁ => ⟨hf.1, hf.2, hp.2 (T.setVm vm₁) hT hW₁⟩) with ⟨v, vm₁, ⟨U', l2, c2, s2⟩, hW₁, X', ⟨g', mk, t, L, e1, e2, hq, h1, hL, h2, h3⟩, st⟩ | ⟨q, vm₁, ⟨U', l2, c2, s2⟩, hW₁, X', ⟨g', mk, t, L, E, ce, e1, e2, hq, hce, hcv, hcl, h1, hL, h2, h3⟩, st⟩
  · dsimp only [Pt.U, Pt.locs, Pt.cells, Pt.slots] at X' e1 e2 h1 h2 h3 st
    subst h1; subst h2; subst h3
    exact Or.inl ⟨v, (T.setVm vm₁).calling g' mk As.toArray, t, U', L, hT, X', hL, e1, e2, hq, st⟩
  · dsimp only [Pt.U, Pt.locs, Pt.cells, Pt.slots] at X' e1 e2 h1 h2 h3 st hcl
    subst h1; subst h2; subst h3
    exact Or.inr ⟨q, (T.setVm vm₁).calling g' mk As.toArray, t, U', L, E, ce, hT, X', hL, e1, e2, hq, hce, hcv, vx_cls hW₁ hcl, st⟩
end Runs
section Rows
variable {p : Program} {l : Launch} {e : Env} {R : Room} {s : State} {m : MethodId} {args : Array Value} {below : List Frame} {meth : Method} {c : Code} {H : Heap} {locs : List Loc} {cells slots : Nat} {Q : State → Prop}
variable {mc ms : Nat} {free : Addr → Prop} {A0 A1 : Nat → Prop} {H0 : Heap} {a : Array Value} {pc : Nat} {ls : Array Slot} {st0 rest : List Value}
theorem vx_keep {st₀ t T' : State} {L : List Loc} (h0 : st₀.heap = H) (e1 : T'.heap = t.heap) (hS : va_S A0 H0 H locs) (hA : ∀ q, q < H.size → A1 q → A0 q) (hf : ∀ q, free q → A0 q) (hL : ∀ q ∈ L, free q.base) (hF : va_F A1 st₀ t) :
    H.size ≤ T'.heap.size ∧ (∀ q : Nat, q < H.size → ¬ A1 q → T'.heap[q]? = H[q]?) ∧ va_S A0 H0 T'.heap (locs ++ L) := by
  obtain ⟨hz, hk⟩ := hF
  rw [h0] at hz hk
  exact ⟨by rw [e1]; exact hz, fun q h1 h2 => by rw [e1]; exact hk q h1 h2,
    ⟨Nat.le_trans hS.1 (by rw [e1]; exact hz), fun q h1 h2 => by rw [e1, hk q (Nat.lt_of_lt_of_le h1 hS.1) (fun z => h2 (hA q (Nat.lt_of_lt_of_le h1 hS.1) z))]; exact hS.2.1 q h1 h2, fun q hq => by
      rcases List.mem_append.mp hq with h | h
      · exact hS.2.2 q h
      · exact hf _ (hL q h)⟩⟩
theorem vx_calli {S SX : Type} {post : Int32 → S → Prop} {px : SX → Prop} {B : S → State → Prop} {BX : String → SX → State → Prop} {AX : Nat → Prop} (hr : vx_Run p l e R s m args below meth c H locs cells slots mc ms (F0 m pc ls st0) rest (va_Qi post B A1 a) (vx_X px BX AX) free) (hS : va_S A0 H0 H locs) (hA : ∀ q, q < H.size → A1 q → A0 q) (hf : ∀ q, free q → A0 q) (hAX : ∀ q, q < H.size → AX q → A0 q)
    (kx : ∀ (E : String) (ce : Cell) (q9 : Addr) (u : SX) (t : State) (H1 : Heap) (locs1 : List Loc), t.heap = H1 → s.vm.Alike t.vm → px u → BX E u t → H.size ≤ H1.size → (∀ q : Nat, q < H.size → ¬ AX q → H1[q]? = H[q]?) → va_S A0 H0 H1 locs1 → H1[q9]? = some ce → ce.vm = .none → s.vm.findClass E = some ce.cls → vx_W p l e R s m args below meth c H1 locs1 (cells + mc) (slots + ms) Q (F0 m pc ls rest) q9)
    (kk : ∀ (r : Int32) (u : S) (t : State) (H1 : Heap) (locs1 : List Loc), t.heap = H1 → s.vm.Alike t.vm → post r u → B u t → H.size ≤ H1.size → (∀ q : Nat, q < H.size → ¬ A1 q → H1[q]? = H[q]?) → va_S A0 H0 H1 locs1 → W p l e R s m args below meth c H1 locs1 (cells + mc) (slots + ms) Q (F0 m (pc + 3) ls (.int r :: rest))) : W p l e R s m args below meth c H locs cells slots Q (F0 m pc ls st0) := by
  intro T hT X
  rcases hr T hT X with ⟨v, st₀, t, T', L, h0, X', hL, e1, e2, ⟨⟨r, u, hv, hp, hb⟩, hF⟩, st⟩ | ⟨q, st₀, t, T', L, E, ce, h0, X', hL, e1, e2, ⟨u, hp, hb, hF⟩, hce, hcv, hcl, st⟩
  · cases hv
    obtain ⟨k1, k2, k3⟩ := vx_keep h0 e1 hS hA hf hL hF
    obtain ⟨t2, a1, b1⟩ := kk r u t T'.heap (locs ++ L) e1.symm (by rw [← e2]; exact X'.warmed.alike) hp hb k1 k2 k3 T' rfl X'
    exact ⟨t2, st t2 a1, b1⟩
  · obtain ⟨k1, k2, k3⟩ := vx_keep h0 e1 hS hAX hf hL hF
    obtain ⟨t2, a1, b1⟩ := kx E ce q u t T'.heap (locs ++ L) e1.symm (by rw [← e2]; exact X'.warmed.alike) hp hb k1 k2 k3 (by rw [e1]; exact hce) hcv hcl T' rfl X'
    exact ⟨t2, st.trans a1, b1⟩
theorem vx_calll {S SX : Type} {post : Int64 → S → Prop} {px : SX → Prop} {B : S → State → Prop} {BX : String → SX → State → Prop} {AX : Nat → Prop} (hr : vx_Run p l e R s m args below meth c H locs cells slots mc ms (F0 m pc ls st0) rest (va_Ql post B A1 a) (vx_X px BX AX) free) (hS : va_S A0 H0 H locs) (hA : ∀ q, q < H.size → A1 q → A0 q) (hf : ∀ q, free q → A0 q) (hAX : ∀ q, q < H.size → AX q → A0 q)
    (kx : ∀ (E : String) (ce : Cell) (q9 : Addr) (u : SX) (t : State) (H1 : Heap) (locs1 : List Loc), t.heap = H1 → s.vm.Alike t.vm → px u → BX E u t → H.size ≤ H1.size → (∀ q : Nat, q < H.size → ¬ AX q → H1[q]? = H[q]?) → va_S A0 H0 H1 locs1 → H1[q9]? = some ce → ce.vm = .none → s.vm.findClass E = some ce.cls → vx_W p l e R s m args below meth c H1 locs1 (cells + mc) (slots + ms) Q (F0 m pc ls rest) q9)
    (kk : ∀ (r : Int64) (u : S) (t : State) (H1 : Heap) (locs1 : List Loc), t.heap = H1 → s.vm.Alike t.vm → post r u → B u t → H.size ≤ H1.size → (∀ q : Nat, q < H.size → ¬ A1 q → H1[q]? = H[q]?) → va_S A0 H0 H1 locs1 → W p l e R s m args below meth c H1 locs1 (cells + mc) (slots + ms) Q (F0 m (pc + 3) ls (.long r :: rest))) : W p l e R s m args below meth c H locs cells slots Q (F0 m pc ls st0) := by
  intro T hT X
  rcases hr T hT X with ⟨v, st₀, t, T', L, h0, X', hL, e1, e2, ⟨⟨r, u, hv, hp, hb⟩, hF⟩, st⟩ | ⟨q, st₀, t, T', L, E, ce, h0, X', hL, e1, e2, ⟨u, hp, hb, hF⟩, hce, hcv, hcl, st⟩
  · cases hv
    obtain ⟨k1, k2, k3⟩ := vx_keep h0 e1 hS hA hf hL hF
    obtain ⟨t2, a1, b1⟩ := kk r u t T'.heap (locs ++ L) e1.symm (by rw [← e2]; exact X'.warmed.alike) hp hb k1 k2 k3 T' rfl X'
    exact ⟨t2, st t2 a1, b1⟩
  · obtain ⟨k1, k2, k3⟩ := vx_keep h0 e1 hS hAX hf hL hF
    obtain ⟨t2, a1, b1⟩ := kx E ce q u t T'.heap (locs ++ L) e1.symm (by rw [← e2]; exact X'.warmed.alike) hp hb k1 k2 k3 (by rw [e1]; exact hce) hcv hcl T' rfl X'
    exact ⟨t2, st.trans a1, b1⟩
theorem vx_callf {S SX : Type} {post : UInt32 → S → Prop} {px : SX → Prop} {B : S → State → Prop} {BX : String → SX → State → Prop} {AX : Nat → Prop} (hr : vx_Run p l e R s m args below meth c H locs cells slots mc ms (F0 m pc ls st0) rest (va_Qf post B A1 a) (vx_X px BX AX) free) (hS : va_S A0 H0 H locs) (hA : ∀ q, q < H.size → A1 q → A0 q) (hf : ∀ q, free q → A0 q) (hAX : ∀ q, q < H.size → AX q → A0 q)
    (kx : ∀ (E : String) (ce : Cell) (q9 : Addr) (u : SX) (t : State) (H1 : Heap) (locs1 : List Loc), t.heap = H1 → s.vm.Alike t.vm → px u → BX E u t → H.size ≤ H1.size → (∀ q : Nat, q < H.size → ¬ AX q → H1[q]? = H[q]?) → va_S A0 H0 H1 locs1 → H1[q9]? = some ce → ce.vm = .none → s.vm.findClass E = some ce.cls → vx_W p l e R s m args below meth c H1 locs1 (cells + mc) (slots + ms) Q (F0 m pc ls rest) q9)
    (kk : ∀ (r : UInt32) (u : S) (t : State) (H1 : Heap) (locs1 : List Loc), t.heap = H1 → s.vm.Alike t.vm → post r u → B u t → H.size ≤ H1.size → (∀ q : Nat, q < H.size → ¬ A1 q → H1[q]? = H[q]?) → va_S A0 H0 H1 locs1 → W p l e R s m args below meth c H1 locs1 (cells + mc) (slots + ms) Q (F0 m (pc + 3) ls (.float r :: rest))) : W p l e R s m args below meth c H locs cells slots Q (F0 m pc ls st0) := by
  intro T hT X
  rcases hr T hT X with ⟨v, st₀, t, T', L, h0, X', hL, e1, e2, ⟨⟨r, u, hv, hp, hb⟩, hF⟩, st⟩ | ⟨q, st₀, t, T', L, E, ce, h0, X', hL, e1, e2, ⟨u, hp, hb, hF⟩, hce, hcv, hcl, st⟩
  · cases hv
    obtain ⟨k1, k2, k3⟩ := vx_keep h0 e1 hS hA hf hL hF
    obtain ⟨t2, a1, b1⟩ := kk r u t T'.heap (locs ++ L) e1.symm (by rw [← e2]; exact X'.warmed.alike) hp hb k1 k2 k3 T' rfl X'
    exact ⟨t2, st t2 a1, b1⟩
  · obtain ⟨k1, k2, k3⟩ := vx_keep h0 e1 hS hAX hf hL hF
    obtain ⟨t2, a1, b1⟩ := kx E ce q u t T'.heap (locs ++ L) e1.symm (by rw [← e2]; exact X'.warmed.alike) hp hb k1 k2 k3 (by rw [e1]; exact hce) hcv hcl T' rfl X'
    exact ⟨t2, st.trans a1, b1⟩
theorem vx_calld {S SX : Type} {post : UInt64 → S → Prop} {px : SX → Prop} {B : S → State → Prop} {BX : String → SX → State → Prop} {AX : Nat → Prop} (hr : vx_Run p l e R s m args below meth c H locs cells slots mc ms (F0 m pc ls st0) rest (va_Qd post B A1 a) (vx_X px BX AX) free) (hS : va_S A0 H0 H locs) (hA : ∀ q, q < H.size → A1 q → A0 q) (hf : ∀ q, free q → A0 q) (hAX : ∀ q, q < H.size → AX q → A0 q)
    (kx : ∀ (E : String) (ce : Cell) (q9 : Addr) (u : SX) (t : State) (H1 : Heap) (locs1 : List Loc), t.heap = H1 → s.vm.Alike t.vm → px u → BX E u t → H.size ≤ H1.size → (∀ q : Nat, q < H.size → ¬ AX q → H1[q]? = H[q]?) → va_S A0 H0 H1 locs1 → H1[q9]? = some ce → ce.vm = .none → s.vm.findClass E = some ce.cls → vx_W p l e R s m args below meth c H1 locs1 (cells + mc) (slots + ms) Q (F0 m pc ls rest) q9)
    (kk : ∀ (r : UInt64) (u : S) (t : State) (H1 : Heap) (locs1 : List Loc), t.heap = H1 → s.vm.Alike t.vm → post r u → B u t → H.size ≤ H1.size → (∀ q : Nat, q < H.size → ¬ A1 q → H1[q]? = H[q]?) → va_S A0 H0 H1 locs1 → W p l e R s m args below meth c H1 locs1 (cells + mc) (slots + ms) Q (F0 m (pc + 3) ls (.double r :: rest))) : W p l e R s m args below meth c H locs cells slots Q (F0 m pc ls st0) := by
  intro T hT X
  rcases hr T hT X with ⟨v, st₀, t, T', L, h0, X', hL, e1, e2, ⟨⟨r, u, hv, hp, hb⟩, hF⟩, st⟩ | ⟨q, st₀, t, T', L, E, ce, h0, X', hL, e1, e2, ⟨u, hp, hb, hF⟩, hce, hcv, hcl, st⟩
  · cases hv
    obtain ⟨k1, k2, k3⟩ := vx_keep h0 e1 hS hA hf hL hF
    obtain ⟨t2, a1, b1⟩ := kk r u t T'.heap (locs ++ L) e1.symm (by rw [← e2]; exact X'.warmed.alike) hp hb k1 k2 k3 T' rfl X'
    exact ⟨t2, st t2 a1, b1⟩
  · obtain ⟨k1, k2, k3⟩ := vx_keep h0 e1 hS hAX hf hL hF
    obtain ⟨t2, a1, b1⟩ := kx E ce q u t T'.heap (locs ++ L) e1.symm (by rw [← e2]; exact X'.warmed.alike) hp hb k1 k2 k3 (by rw [e1]; exact hce) hcv hcl T' rfl X'
    exact ⟨t2, st.trans a1, b1⟩
theorem vx_callv {S SX : Type} {post : S → Prop} {px : SX → Prop} {B : S → State → Prop} {BX : String → SX → State → Prop} {AX : Nat → Prop} (hr : vx_Run p l e R s m args below meth c H locs cells slots mc ms (F0 m pc ls st0) rest (va_Qv post B A1 a) (vx_X px BX AX) free) (hS : va_S A0 H0 H locs) (hA : ∀ q, q < H.size → A1 q → A0 q) (hf : ∀ q, free q → A0 q) (hAX : ∀ q, q < H.size → AX q → A0 q)
    (kx : ∀ (E : String) (ce : Cell) (q9 : Addr) (u : SX) (t : State) (H1 : Heap) (locs1 : List Loc), t.heap = H1 → s.vm.Alike t.vm → px u → BX E u t → H.size ≤ H1.size → (∀ q : Nat, q < H.size → ¬ AX q → H1[q]? = H[q]?) → va_S A0 H0 H1 locs1 → H1[q9]? = some ce → ce.vm = .none → s.vm.findClass E = some ce.cls → vx_W p l e R s m args below meth c H1 locs1 (cells + mc) (slots + ms) Q (F0 m pc ls rest) q9)
    (kk : ∀ (u : S) (t : State) (H1 : Heap) (locs1 : List Loc), t.heap = H1 → s.vm.Alike t.vm → post u → B u t → H.size ≤ H1.size → (∀ q : Nat, q < H.size → ¬ A1 q → H1[q]? = H[q]?) → va_S A0 H0 H1 locs1 → W p l e R s m args below meth c H1 locs1 (cells + mc) (slots + ms) Q (F0 m (pc + 3) ls (rest))) : W p l e R s m args below meth c H locs cells slots Q (F0 m pc ls st0) := by
  intro T hT X
  rcases hr T hT X with ⟨v, st₀, t, T', L, h0, X', hL, e1, e2, ⟨⟨u, hv, hp, hb⟩, hF⟩, st⟩ | ⟨q, st₀, t, T', L, E, ce, h0, X', hL, e1, e2, ⟨u, hp, hb, hF⟩, hce, hcv, hcl, st⟩
  · cases hv
    obtain ⟨k1, k2, k3⟩ := vx_keep h0 e1 hS hA hf hL hF
    obtain ⟨t2, a1, b1⟩ := kk u t T'.heap (locs ++ L) e1.symm (by rw [← e2]; exact X'.warmed.alike) hp hb k1 k2 k3 T' rfl X'
    exact ⟨t2, st t2 a1, b1⟩
  · obtain ⟨k1, k2, k3⟩ := vx_keep h0 e1 hS hAX hf hL hF
    obtain ⟨t2, a1, b1⟩ := kx E ce q u t T'.heap (locs ++ L) e1.symm (by rw [← e2]; exact X'.warmed.alike) hp hb k1 k2 k3 (by rw [e1]; exact hce) hcv hcl T' rfl X'
    exact ⟨t2, st.trans a1, b1⟩
/-- caught by the row x of this method's table; the rows ahead don't take it -/
theorem vx_catch {own name : String} {E : String} {ce : Cell} {q : Addr} (hown : s.vm.findClass own = some m.cls) (pre : List ExceptionTableEntry) (x : ExceptionTableEntry) (suf : List ExceptionTableEntry) (hsplit : c.exceptionTable.toList = pre ++ x :: suf)
    (hpass : ∀ z ∈ pre, covers z pc = false ∨ (z.catchType ≠ 0 ∧ ∃ nm : String, (Cond.classLink own z.catchType nm).before args s = true ∧ va_Nc E nm s)) (hx : covers x pc = true) (h0 : x.catchType ≠ 0)
    (hlink : (Cond.classLink own x.catchType name).before args s = true) (hcast : (Cond.castable E name).before args s = true) (hcell : H[q]? = some ce) (hv : ce.vm = .none) (hcl : s.vm.findClass E = some ce.cls)
    (kk : W p l e R s m args below meth c H locs cells slots Q (F0 m x.handlerPc ls [.ref q])) : vx_W p l e R s m args below meth c H locs cells slots Q (F0 m pc ls rest) q := by
  intro T hT X
  have hpl : e.platform.magicAccessors = ({} : Platform).magicAccessors := by rw [X.admits.platform]
  obtain ⟨c3, c4, hc3, hc4, hasg⟩ := Cond.castable_spec hcast
  cases Option.some.inj (hc3.symm.trans hcl)
  obtain ⟨c5, hc5, hcl5⟩ := Cond.classLink_spec hown hlink e.platform hpl
  cases Option.some.inj (hc4.symm.trans hc5)
  obtain ⟨vm', X', st⟩ := X.thenCaughtThrough q (g := F0 m pc ls rest) rfl (Steps.refl _) (by rw [hT]; exact hcell) (by rw [hv]; rfl) (by obtain ⟨k9, h9, -⟩ := Vm.findClass_spec hcl; exact ⟨k9, h9⟩) pre x suf hsplit
    (fun z hz => by
      rcases hpass z hz with h | ⟨hz0, nm, hl1, hn1⟩
      · exact Or.inl h
      · obtain ⟨c6, hc6, hcl6⟩ := Cond.classLink_spec hown hl1 e.platform hpl
        obtain ⟨a8, b8, h1, h2, h3⟩ := hn1
        cases Option.some.inj (h1.symm.trans hcl)
        cases Option.some.inj (h2.symm.trans hc6)
        exact Or.inr ⟨hz0, _, hcl6, h3⟩) hx (Or.inr ⟨h0, c4, hcl5, hasg⟩)
  obtain ⟨t, a1, b1⟩ := kk (T.setVm vm') hT X'
  exact ⟨t, st.trans a1, b1⟩
end Rows
section Ends
variable {p : Program} {l : Launch} {e : Env} {R : Room} {s : State} {m : MethodId} {args : Array Value} {below : List Frame} {meth : Method} {c : Code} {H : Heap} {locs : List Loc} {cells slots : Nat} {Q : State → Prop}
variable {mc ms : Nat} {free : Addr → Prop} {A0 A1 : Nat → Prop} {H0 : Heap} {a : Array Value} {ls : Array Slot} {st0 rest : List Value}
variable {Qc : Array Value → State → Outcome → State → Prop} {XC : String → State → State → Prop}
/-- what a body that may throw owes at its end -/
def vx_MQ (below : List Frame) (Qc : Array Value → State → Outcome → State → Prop) (XC : String → State → State → Prop) (a : Array Value) (s : State) (mc ms : Nat) (free : Addr → Prop) : State → Prop := fun t =>
  ∃ o, t.status = .running ∧ Ended t below o ∧ vx_Q Qc XC mc ms free a s o t
theorem vx_ret {g : JFrame} {mc ms : Nat} (k : W p l e R s m args below meth c H locs cells slots (MQ below Qc args s mc ms free) g) : W p l e R s m args below meth c H locs cells slots (vx_MQ below Qc XC args s mc ms free) g := by
  intro T hT X
  obtain ⟨t, a1, o, b1, b2, b3, b4⟩ := k T hT X
  exact ⟨t, a1, o, b1, b2, Or.inl ⟨b3, b4⟩⟩
/-- not caught here: it goes on to the caller -/
theorem vx_widen {g : JFrame} {q : Addr} {k n : Nat} (h1 : cells ≤ k) (h2 : slots ≤ n) (kk : vx_W p l e R s m args below meth c H locs k n Q g q) : vx_W p l e R s m args below meth c H locs cells slots Q g q := fun T hT X => kk T hT (stand_widen X h1 h2)
theorem vx_out {pc : Nat} {E : String} {ce : Cell} {q : Addr} {mc ms : Nat} (hout : ∀ x ∈ c.exceptionTable.toList, covers x pc = false) (hlocks : meth.locks = false) (hcell : H[q]? = some ce) (hv : ce.vm = .none) (hcl : s.vm.findClass E = some ce.cls)
    (hx : ∀ t : State, t.heap = H → s.vm.Alike t.vm → XC E s t) (hf : ∀ z ∈ locs, free z.base) (hc : cells ≤ mc) (hs : slots ≤ ms) :
    vx_W p l e R s m args below meth c H locs cells slots (vx_MQ below Qc XC args s mc ms free) (F0 m pc ls rest) q := by
  intro T hT X
  obtain ⟨st1, hrun, hend, hW, hsm⟩ := X.leaveThrown q (g := F0 m pc ls rest) rfl rfl rfl hout hlocks
  have hcell9 : (T.setFrames (.throwing q :: below)).heap[q]? = some ce := by
    show T.heap[q]? = some ce
    rw [hT]; exact hcell
  exact ⟨_, st1, .threw q, hrun, hend, Or.inr ⟨q, rfl, E, ce, locs, hx _ hT hW.alike, hcell9, hv, hcl, hW, hsm.mono hc hs, hf⟩⟩
theorem vx_frame {U : State} {k n : Nat} (h : s.sameButNew ({ U with vm := s.vm } : State) locs k n) : s.heap.size ≤ U.heap.size ∧ ∀ q : Nat, q < s.heap.size → (∀ z ∈ locs, z.base ≠ q) → U.heap[q]? = s.heap[q]? := by
  obtain ⟨-, h2, -, -, -, h6⟩ := h
  refine ⟨h2, fun q hq hz => ?_⟩
  obtain ⟨c9, e1, e2, e3, e4⟩ := h6 q _ (Array.getElem?_eq_getElem hq)
  have hs : c9.slots = (s.heap[q]).slots := Array.ext_getElem? fun i => e4 i fun hm => hz _ hm rfl
  have h9 : c9 = s.heap[q] := by
    rw [hs] at e2
    exact e2
  have e5 : U.heap[q]? = some c9 := e1
  rw [e5, h9, Array.getElem?_eq_getElem hq]
/-- the words of a throw but the four that speak of the heap -/
def vx_no (w : Cond) : Bool := decide (w ≠ .isRef (.static Bundle.tN "UNASSIGNED_STACK" Bundle.steD)) && decide (w ≠ .isRef (.static Bundle.tN "SUPPRESSED_SENTINEL" Bundle.listD)) && decide (w ≠ .laysStatic Bundle.tN "UNASSIGNED_STACK" Bundle.steD) && decide (w ≠ .laysStatic Bundle.tN "SUPPRESSED_SENTINEL" Bundle.listD)
def vx_at0 (own : String) (ic : Nat) (X : String) (names : List String) : List Cond := (Bundle.ownAtoms0 own ic X names).filter vx_no
def vx_atS (own : String) (ic : Nat) (X : String) (names : List String) : List Cond := (Bundle.ownAtoms own ic X names).filter vx_no
/-- a word that the tables alone decide, or a good one -/
def vx_ot (w : Cond) : Bool := w.onTables || goodWord w
theorem vx_ot_at {args a' : Array Value} {s U : State} {w : Cond} (hW : s.WarmedH U.vm) (hvm : s.vm = U.vm) (hg : vx_ot w = true) (h : w.before args s = true) : w.before a' U = true := by
  simp only [vx_ot, Bool.or_eq_true] at hg
  rcases hg with hg | hg
  · exact va_tabs hg hvm h
  · exact word_at hW (good_of_word hg) h
/-- a list's words: the good ones out of the method's own list, the others by premises of their own -/
theorem vx_hat {args : Array Value} {s : State} {L B : List Cond} (h1 : ∀ w ∈ L.filter goodWord, w.before args s = true) (h2 : ∀ w ∈ L.filter (fun w => !goodWord w), w ∈ B) (h3 : ∀ w ∈ B, w.before args s = true) : ∀ w ∈ L, w.before args s = true := by
  intro w hw
  by_cases g : goodWord w = true
  · exact h1 w (List.mem_filter.mpr ⟨hw, g⟩)
  · refine h3 w (h2 w (List.mem_filter.mpr ⟨hw, ?_⟩))
    show (!goodWord w) = true
    cases hgw : goodWord w
    · rfl
    · exact absurd hgw g
theorem vx_c {args : Array Value} {s : State} {w : Cond} {B : List Cond} (h : w.before args s = true) (t : ∀ w ∈ B, w.before args s = true) : ∀ w' ∈ w :: B, w'.before args s = true := fun w' h' => (List.mem_cons.mp h').elim (fun e => by rw [e]; exact h) (t w')
theorem vx_n {args : Array Value} {s : State} : ∀ w ∈ ([] : List Cond), w.before args s = true := fun _ h => nomatch h
theorem vx_own {args : Array Value} {s : State} {L : List Cond} (h1 : ∀ w ∈ L.filter vx_no, w.before args s = true)
    (hU : (Cond.isRef (.static Bundle.tN "UNASSIGNED_STACK" Bundle.steD)).before args s = true) (hN : (Cond.isRef (.static Bundle.tN "SUPPRESSED_SENTINEL" Bundle.listD)).before args s = true)
    (lU : (Cond.laysStatic Bundle.tN "UNASSIGNED_STACK" Bundle.steD).before args s = true) (lN : (Cond.laysStatic Bundle.tN "SUPPRESSED_SENTINEL" Bundle.listD).before args s = true) : ∀ w ∈ L, w.before args s = true := by
  intro w hw
  by_cases e1 : w = .isRef (.static Bundle.tN "UNASSIGNED_STACK" Bundle.steD)
  · rw [e1]; exact hU
  · by_cases e2 : w = .isRef (.static Bundle.tN "SUPPRESSED_SENTINEL" Bundle.listD)
    · rw [e2]; exact hN
    · by_cases e3 : w = .laysStatic Bundle.tN "UNASSIGNED_STACK" Bundle.steD
      · rw [e3]; exact lU
      · by_cases e4 : w = .laysStatic Bundle.tN "SUPPRESSED_SENTINEL" Bundle.listD
        · rw [e4]; exact lN
        · exact h1 w (List.mem_filter.mpr ⟨hw, by unfold vx_no; rw [decide_eq_true e1, decide_eq_true e2, decide_eq_true e3, decide_eq_true e4]; rfl⟩)
/-- where a static field lies, its class's statics cell in H -/
def vx_L (C n d : String) (A : Nat → Prop) (U : State) (H : Heap) : Prop := ∃ (c : ClassId) (k : Class) (i : Nat) (f : Field) (a : Nat) (cell : Cell), U.vm.findClass C = some c ∧ U.fieldFound? C n d = some (c, k, i, f) ∧ f.isStatic = true ∧ k.statics = some a ∧ H[a]? = some cell ∧ cell.vm.isStatics = true ∧ cell.cls = c ∧ f.slot < cell.slots.size ∧ k.staticTypes[f.slot]? = some f.type ∧ ¬ A a
theorem vx_L.moved {C n d : String} {A : Nat → Prop} {u U : State} {H : Heap} (hvm : u.vm.Alike U.vm) (h : vx_L C n d A u H) : vx_L C n d A U H := by
  obtain ⟨c, k, i, f, a, cell, h1, h2, h3, h4, h5, h6, h7, h8, h9, h10⟩ := h
  obtain ⟨k', hi', he⟩ := State.fieldFound?_setVm hvm h2
  exact ⟨c, k', i, f, a, cell, by rw [hvm.findClass]; exact h1, hi', h3, by rw [he]; exact h4, h5, h6, h7, h8, by rw [he]; exact h9, h10⟩
theorem vx_L.kept {C n d : String} {A : Nat → Prop} {U : State} {H H1 : Heap} (h : vx_L C n d A U H) (hq : ∀ a : Nat, a < H.size → ¬ A a → H1[a]? = H[a]?) : vx_L C n d A U H1 := by
  obtain ⟨c, k, i, f, a, cell, h1, h2, h3, h4, h5, h6, h7, h8, h9, h10⟩ := h
  exact ⟨c, k, i, f, a, cell, h1, h2, h3, h4, by rw [hq a (Array.getElem?_eq_some_iff.mp h5).1 h10]; exact h5, h6, h7, h8, h9, h10⟩
theorem vx_L.narrow {C n d : String} {A B : Nat → Prop} {U : State} {H : Heap} (h : vx_L C n d A U H) (hAB : ∀ q, B q → A q) : vx_L C n d B U H := by
  obtain ⟨c, k, i, f, a, cell, h1, h2, h3, h4, h5, h6, h7, h8, h9, h10⟩ := h
  exact ⟨c, k, i, f, a, cell, h1, h2, h3, h4, h5, h6, h7, h8, h9, fun z => h10 (hAB _ z)⟩
theorem vx_L.word {C n d : String} {A : Nat → Prop} {s : State} {args : Array Value} (h : vx_L C n d A s s.heap) : (Cond.laysStatic C n d).before args s = true := by
  obtain ⟨c, k, i, f, a, cell, h1, h2, h3, h4, h5, h6, h7, h8, h9, -⟩ := h
  show (Cond.laysStatic C n d).holds args s none s [] = true
  exact Cond.laysStatic_of h1 h2 h3 h4 h5 h6 h7 h8 h9
/-- .. and what it holds: null or some reference -/
def vx_Zq (C n d : String) (A : Nat → Prop) (U : State) (H : Heap) : Prop := va_Zq C n d A U H ∧ vx_L C n d A U H
theorem vx_Zq.moved {C n d : String} {A : Nat → Prop} {u U : State} {H : Heap} (hvm : u.vm.Alike U.vm) (h : vx_Zq C n d A u H) : vx_Zq C n d A U H := ⟨va_Zq.moved hvm h.1, vx_L.moved hvm h.2⟩
theorem vx_Zq.kept {C n d : String} {A : Nat → Prop} {U : State} {H H1 : Heap} (h : vx_Zq C n d A U H) (hq : ∀ a : Nat, a < H.size → ¬ A a → H1[a]? = H[a]?) : vx_Zq C n d A U H1 := ⟨va_Zq.kept h.1 hq, vx_L.kept h.2 hq⟩
theorem vx_Zq.narrow {C n d : String} {A B : Nat → Prop} {U : State} {H : Heap} (h : vx_Zq C n d A U H) (hAB : ∀ q, B q → A q) : vx_Zq C n d B U H := ⟨va_Zq.narrow h.1 hAB, vx_L.narrow h.2 hAB⟩
theorem vx_Zqof {args : Array Value} {s : State} {C n d : String} {A : Nat → Prop} (hl : (Cond.laysStatic C n d).before args s = true) (hini : (Cond.initialized C).before args s = true) (h : (Cond.isRef (.static C n d)).before args s = true) (hA : ∀ a : Nat, a < s.heap.size → ¬ A a) : vx_Zq C n d A s s.heap := by
  refine ⟨va_Zqof hl hini h hA, ?_⟩
  obtain ⟨c, k, i, f, a, cell, h1, h2, h3, h4, h5, h6, h7, h8, h9⟩ := Cond.laysStatic_spec hl
  exact ⟨c, k, i, f, a, cell, h1, h2, h3, h4, h5, h6, h7, h8, h9, hA a (Array.getElem?_eq_some_iff.mp h5).1⟩
theorem vx_isRef {C n d : String} {v : Value} {A : Nat → Prop} {s : State} {args : Array Value} (h : va_Z C n d v A s s.heap) (hv : v.isRef = true) : (Cond.isRef (.static C n d)).before args s = true := by
  obtain ⟨cf, kf, fi, f, a, cell, h1, h2, h3, h4, h5, h6, h7, -⟩ := h
  have he : (Term.static C n d).eval args s none [] s = some v := by
    simp [Term.eval, State.fieldNamed?, h1, h2, h4, h5, h6, h7]
  simp only [Cond.before, Cond.holds, Cond.value, he]
  cases v <;> simp_all [Value.isRef]
theorem vx_isRefq {C n d : String} {A : Nat → Prop} {s : State} {args : Array Value} (h : va_Zq C n d A s s.heap) : (Cond.isRef (.static C n d)).before args s = true := by
  rcases h with h | ⟨t, h⟩
  · exact vx_isRef h rfl
  · exact vx_isRef h rfl
/-- the same frame, seen from here: as if the method were called anew in this heap -/
theorem vx_rebase {T : State} (X : Stand p l e R s m args below meth c T locs cells slots) {R' : Room} (hf : R'.frames ≤ R.frames) (hl : R'.locals ≤ R.locals) (hc : cells + R'.cells ≤ R.cells) (hs : slots + R'.slots ≤ R.slots) :
    Stand p l e R' ((T.setVm s.vm).setFrames (.invoking m args :: below)) m args below meth c T [] 0 0 := by
  have htop : (T.setVm s.vm).topJava?.isSome := X.here.top
  have hF : ((T.setVm s.vm).setFrames (.invoking m args :: below)).frames = .invoking m args :: below := State.frames_setFrames _ (State.cur_lt_of_top htop)
  obtain ⟨g₀, hg0⟩ := Option.isSome_iff_exists.mp htop
  obtain ⟨r, hr⟩ := State.topJava?_eq_some.mp hg0
  have hl9 : e.platform.stackLimits (T.setVm s.vm).me = e.platform.stackLimits s.me := X.limits
  have hb9 : (T.setVm s.vm).me.stackBytes = s.me.stackBytes := X.bytes
  refine ⟨X.admits, X.cas, X.clock, hF, ?_, X.hears, X.method, X.code, X.here, X.tail, X.warmed, ?_, ?_, ?_⟩
  · have h := X.room
    have hU : ((T.setVm s.vm).setFrames (.invoking m args :: below)).localsInUse = s.localsInUse := by
      rw [State.localsInUse_invoking hF (meth := meth) (c := c) X.method X.code, State.localsInUse_invoking X.frames X.method X.code]
    simp only [State.hasRoom, Bool.and_eq_true, decide_eq_true_eq] at h ⊢
    obtain ⟨⟨⟨⟨h1, h2, h3, h4, h5, h6⟩, h7⟩, h8⟩, h9⟩ := h
    rw [X.frames, List.length_cons] at h2 h3
    have q1 := X.heapSize
    have q2 := X.used
    simp only [hF, hU, List.length_cons, State.stackLimits_setFrames, State.stackBytes_setFrames, hl9, hb9]
    refine ⟨⟨⟨⟨by omega, by omega, by omega, by omega, by omega, h6⟩, ?_⟩, ?_⟩, X.book⟩
    · show T.heap.size + R'.cells ≤ e.platform.maxCells
      omega
    · show T.slotsUsed + R'.slots ≤ e.platform.maxSlots
      omega
  · rw [State.stackLimits_setFrames]; rfl
  · rw [State.stackBytes_setFrames]; rfl
  · refine ⟨?_, Nat.le_refl _, Nat.le_refl _, ?_, ?_, fun a c9 h9 => ⟨c9, h9, rfl, rfl, fun _ _ => rfl⟩⟩
    · obtain ⟨t, ht, -⟩ := State.frames_cons hr
      show T.setVm s.vm = { ((T.setVm s.vm).setFrames (.invoking m args :: below)).setFrames (T.setVm s.vm).frames with heap := T.heap, slotsUsed := T.slotsUsed }
      rw [State.setFrames_setFrames, State.setFrames_self ht]
      rfl
    · show T.slotsUsed = T.slotsUsed + ((T.heap.toList.drop T.heap.size).map (·.slots.size)).sum
      rw [List.drop_eq_nil_of_le (Nat.le_of_eq Array.length_toList)]
      rfl
    · show ((T.heap.toList.drop T.heap.size).map (·.slots.size)).sum ≤ 0
      rw [List.drop_eq_nil_of_le (Nat.le_of_eq Array.length_toList)]
      exact Nat.le_refl _
/-- 'throw new E()': new; dup; invokespecial; athrow -/
theorem vx_throw0 {cc : ByteArray} {pc : Nat} (hexec : p.tables.exec = Jvm.exec) (hb : c.code = cc) (hl : l.stackTraces = false) {own cls : String} {names : List String} {ik ic mc ms : Nat} {A : Nat → Prop}
    (hown : s.vm.findClass own = some m.cls) (hcls : Bundle.fit cls = true) (hnames : ∀ n ∈ names, Bundle.fit n = true)
    (hk : (Cond.classLink own ik cls).before args s = true) (hini : (Cond.initialized cls).before args s = true) (hat : ∀ w ∈ vx_at0 own ic cls names, w.before args s = true)
    (hgood : ∀ w ∈ Cond.classLink own ik cls :: Cond.initialized cls :: vx_at0 own ic cls names, vx_ot w = true)
    (hU : vx_Zq Bundle.tN "UNASSIGNED_STACK" Bundle.steD A s s.heap) (hN : vx_Zq Bundle.tN "SUPPRESSED_SENTINEL" Bundle.listD A s s.heap) (hS : va_S A s.heap H locs) (hsize : ls.size = c.maxLocals)
    (d0 : decode cc pc = .ok (.new ik, 3)) (d3 : decode cc (pc + 3) = .ok (.dup, 1)) (d4 : decode cc (pc + 4) = .ok (.invokespecial ic, 3)) (d7 : decode cc (pc + 7) = .ok (.athrow, 1))
    (hout : ∀ x ∈ c.exceptionTable.toList, covers x (pc + 7) = false)
    (hRframes : names.length + 3 < R.frames) (hRlocals : (rest.map fun v => v.category).sum + (13 * (names.length + 1) + 42) ≤ R.locals) (hRcells : cells + 1 ≤ R.cells) (hRslots : slots + 6 ≤ R.slots) (hlocks : meth.locks = false)
    (hx : ∀ t : State, s.vm.Alike t.vm → H.size ≤ t.heap.size → (∀ q : Nat, q < H.size → t.heap[q]? = H[q]?) → XC cls s t)
    (hf : ∀ z ∈ locs, free z.base) (hc : cells + 1 ≤ mc) (hs : slots + 6 ≤ ms) :
    W p l e R s m args below meth c H locs cells slots (vx_MQ below Qc XC args s mc ms free) (F0 m pc ls rest) := by
  intro T hT X
  have htr : e.platform.stackTraces = false := (show e.platform.stackTraces = l.stackTraces by rw [X.admits.platform]).trans hl
  have Y := vx_rebase X (R' := { frames := R.frames, locals := R.locals, cells := 1, slots := 6 }) (Nat.le_refl _) (Nat.le_refl _) hRcells hRslots
  obtain ⟨s', hA⟩ : ∃ z, z = (T.setVm s.vm).setFrames (.invoking m args :: below) := ⟨_, rfl⟩
  rw [← hA] at Y
  have hvm : s'.vm = s.vm := by rw [hA]; rfl
  have hhp : s'.heap = H := by rw [hA]; exact hT
  have hW0 : s.WarmedH s'.vm := by rw [hvm]; exact State.WarmedH.refl s
  have hat' : ∀ w ∈ vx_at0 own ic cls names, w.before args s' = true := fun w hw => vx_ot_at hW0 hvm.symm (hgood w (List.mem_cons_of_mem _ (List.mem_cons_of_mem _ hw))) (hat w hw)
  have hk' : (Cond.classLink own ik cls).before args s' = true := vx_ot_at hW0 hvm.symm (hgood _ List.mem_cons_self) hk
  have hini' : (Cond.initialized cls).before args s' = true := vx_ot_at hW0 hvm.symm (hgood _ (List.mem_cons_of_mem _ List.mem_cons_self)) hini
  have hU' : vx_Zq Bundle.tN "UNASSIGNED_STACK" Bundle.steD A s' s'.heap := by rw [hhp]; exact vx_Zq.moved hW0.alike (hU.kept hS.2.1)
  have hN' : vx_Zq Bundle.tN "SUPPRESSED_SENTINEL" Bundle.listD A s' s'.heap := by rw [hhp]; exact vx_Zq.moved hW0.alike (hN.kept hS.2.1)
  have h : ∀ w ∈ Bundle.ownAtoms0 own ic cls names, w.before args s' = true := vx_own hat' (vx_isRefq hU'.1) (vx_isRefq hN'.1) hU'.2.word hN'.2.word
  have hown' : s'.vm.findClass own = some m.cls := by rw [hvm]; exact hown
  have hins : (Cond.instantiable cls 6).before args s' = true := h _ (by simp [Bundle.ownAtoms0])
  obtain ⟨vm₁, cX, kX, hfX, hkX, -, -, X₁, st1⟩ := Y.newCold hexec (own := own) (C := cls) (index := ik) (n := 6) hown' hk' hins hini'
    (g := F0 m pc ls rest) rfl (by rw [hb]; exact d0) (Nat.le_refl _) (Nat.le_refl _)
  generalize hT1 : (T.setVm vm₁).pushCell { cls := cX, slots := kX.instanceTypes.map defaultValue, vm := .none } = T1 at X₁ st1
  have hcat : (Value.ref T.heap.size).category = 1 := rfl
  have hcellA : T1.heap[T.heap.size]? = some (freshCell cX kX) := by rw [← hT1]; exact State.heap_pushCell_size _ _
  have d3' : decode c.code (pc + 3) = .ok (.dup, 1) := by rw [hb]; exact d3
  obtain ⟨U, hsteps, hrun, hend, hW, hsame, ce, hce, hO⟩ := X₁.ctorThrow0 hexec htr (own := own) (cls := cls) (names := names) (ic := ic) hown' hcls hnames h (fun x hx => nomatch hx) hfX hkX hcellA (by rw [hhp, hT]; exact Nat.le_refl _)
    (g := { method := m, pc := pc + 4, locals := ls, stack := .ref T.heap.size :: .ref T.heap.size :: rest, locked := none }) rfl hsize rfl rfl (rest := rest) rfl
    (by rw [hb]; exact d4) (by rw [hb]; exact d7) hout hRframes (by simp only [List.map_cons, List.sum_cons, hcat]; omega) hlocks
  obtain ⟨f1, f2⟩ := vx_frame hsame
  rw [hhp] at f1 f2
  have hWs : s.WarmedH U.vm := State.WarmedH.trans hW0 hW
  have hcl : s.vm.findClass cls = some ce.cls := by
    have h9 := hO.cls
    rw [hvm] at h9
    exact h9
  have hall : s.sameButNew ({ U with vm := s.vm } : State) locs mc ms := by
    subst hA
    obtain ⟨e1, e2⟩ := hsame
    rw [State.setFrames_setFrames] at e1
    have h2 : (T.setVm s.vm).sameButNew ({ U with vm := s.vm } : State) [] (0 + 1) (0 + 6) := ⟨e1, e2⟩
    have h3 := X.same.trans h2
    rw [List.append_nil] at h3
    exact h3.mono hc hs
  refine ⟨U, ?_, .threw T.heap.size, hrun, hend, Or.inr ⟨T.heap.size, rfl, cls, ce, locs, hx U hWs.alike f1 (fun q hq => f2 q hq (fun z hz => nomatch hz)), hce, hO.vm, hcl, hWs, hall, hf⟩⟩
  refine st1 _ ?_
  show Steps p.tables e below (T1.setTop { method := m, pc := pc + 3, locals := ls, stack := .ref T.heap.size :: rest, locked := none }) _
  jvm_step X₁.here [X₁.here.top, hexec, d3', Value.category]
  exact hsteps
/-- 'throw new E("text")': new; dup; ldc; invokespecial; athrow -/
theorem vx_throwS {cc : ByteArray} {pc : Nat} (hexec : p.tables.exec = Jvm.exec) (hb : c.code = cc) (hl : l.stackTraces = false) {own cls text : String} {names : List String} {ik is ic mc ms sa : Nat} {A : Nat → Prop}
    (hown : s.vm.findClass own = some m.cls) (hcls : Bundle.fit cls = true) (hnames : ∀ n ∈ names, Bundle.fit n = true)
    (hk : (Cond.classLink own ik cls).before args s = true) (hini : (Cond.initialized cls).before args s = true) (hstr : vk_R own is text sa s) (hat : ∀ w ∈ vx_atS own ic cls names, w.before args s = true)
    (hgood : ∀ w ∈ Cond.classLink own ik cls :: Cond.initialized cls :: vx_atS own ic cls names, vx_ot w = true)
    (hU : vx_Zq Bundle.tN "UNASSIGNED_STACK" Bundle.steD A s s.heap) (hN : vx_Zq Bundle.tN "SUPPRESSED_SENTINEL" Bundle.listD A s s.heap) (hS : va_S A s.heap H locs) (hsize : ls.size = c.maxLocals)
    (d0 : decode cc pc = .ok (.new ik, 3)) (d3 : decode cc (pc + 3) = .ok (.dup, 1)) (d4 : decode cc (pc + 4) = .ok (.ldc is, 2)) (d6 : decode cc (pc + 6) = .ok (.invokespecial ic, 3)) (d9 : decode cc (pc + 9) = .ok (.athrow, 1))
    (hout : ∀ x ∈ c.exceptionTable.toList, covers x (pc + 9) = false)
    (hRframes : names.length + 3 < R.frames) (hRlocals : (rest.map fun v => v.category).sum + (13 * (names.length + 1) + 43) ≤ R.locals) (hRcells : cells + 1 ≤ R.cells) (hRslots : slots + 6 ≤ R.slots) (hlocks : meth.locks = false)
    (hx : ∀ t : State, s.vm.Alike t.vm → H.size ≤ t.heap.size → (∀ q : Nat, q < H.size → t.heap[q]? = H[q]?) → XC cls s t)
    (hf : ∀ z ∈ locs, free z.base) (hc : cells + 1 ≤ mc) (hs : slots + 6 ≤ ms) :
    W p l e R s m args below meth c H locs cells slots (vx_MQ below Qc XC args s mc ms free) (F0 m pc ls rest) := by
  intro T hT X
  have htr : e.platform.stackTraces = false := (show e.platform.stackTraces = l.stackTraces by rw [X.admits.platform]).trans hl
  have Y := vx_rebase X (R' := { frames := R.frames, locals := R.locals, cells := 1, slots := 6 }) (Nat.le_refl _) (Nat.le_refl _) hRcells hRslots
  obtain ⟨s', hA⟩ : ∃ z, z = (T.setVm s.vm).setFrames (.invoking m args :: below) := ⟨_, rfl⟩
  rw [← hA] at Y
  have hvm : s'.vm = s.vm := by rw [hA]; rfl
  have hhp : s'.heap = H := by rw [hA]; exact hT
  have hW0 : s.WarmedH s'.vm := by rw [hvm]; exact State.WarmedH.refl s
  have hat' : ∀ w ∈ vx_atS own ic cls names, w.before args s' = true := fun w hw => vx_ot_at hW0 hvm.symm (hgood w (List.mem_cons_of_mem _ (List.mem_cons_of_mem _ hw))) (hat w hw)
  have hk' : (Cond.classLink own ik cls).before args s' = true := vx_ot_at hW0 hvm.symm (hgood _ List.mem_cons_self) hk
  have hini' : (Cond.initialized cls).before args s' = true := vx_ot_at hW0 hvm.symm (hgood _ (List.mem_cons_of_mem _ List.mem_cons_self)) hini
  have hU' : vx_Zq Bundle.tN "UNASSIGNED_STACK" Bundle.steD A s' s'.heap := by rw [hhp]; exact vx_Zq.moved hW0.alike (hU.kept hS.2.1)
  have hN' : vx_Zq Bundle.tN "SUPPRESSED_SENTINEL" Bundle.listD A s' s'.heap := by rw [hhp]; exact vx_Zq.moved hW0.alike (hN.kept hS.2.1)
  have h : ∀ w ∈ Bundle.ownAtoms own ic cls names, w.before args s' = true := vx_own hat' (vx_isRefq hU'.1) (vx_isRefq hN'.1) hU'.2.word hN'.2.word
  have hown' : s'.vm.findClass own = some m.cls := by rw [hvm]; exact hown
  have hins : (Cond.instantiable cls 6).before args s' = true := h _ (by simp [Bundle.ownAtoms])
  obtain ⟨vm₁, cX, kX, hfX, hkX, -, -, X₁, st1⟩ := Y.newCold hexec (own := own) (C := cls) (index := ik) (n := 6) hown' hk' hins hini'
    (g := F0 m pc ls rest) rfl (by rw [hb]; exact d0) (Nat.le_refl _) (Nat.le_refl _)
  generalize hT1 : (T.setVm vm₁).pushCell { cls := cX, slots := kX.instanceTypes.map defaultValue, vm := .none } = T1 at X₁ st1
  have hcat : (Value.ref T.heap.size).category = 1 := rfl
  have hcellA : T1.heap[T.heap.size]? = some (freshCell cX kX) := by rw [← hT1]; exact State.heap_pushCell_size _ _
  have d3' : decode c.code (pc + 3) = .ok (.dup, 1) := by rw [hb]; exact d3
  have d4' : decode c.code (pc + 4) = .ok (.ldc is, 2) := by rw [hb]; exact d4
  have hstr' : vk_R own is text sa s' := vk_R.warm hW0 hstr
  obtain ⟨U, hsteps, hrun, hend, hW, hsame, ce, hce, hO⟩ := X₁.ctorThrowS hexec htr (own := own) (cls := cls) (names := names) (ic := ic) hown' hcls hnames h (fun x hx => nomatch hx) hfX hkX hcellA (by rw [hhp, hT]; exact Nat.le_refl _) (msg := .ref sa) rfl
    (g := { method := m, pc := pc + 6, locals := ls, stack := .ref sa :: .ref T.heap.size :: .ref T.heap.size :: rest, locked := none }) rfl hsize rfl rfl (rest := rest) rfl
    (by rw [hb]; exact d6) (by rw [hb]; exact d9) hout hRframes (by simp only [List.map_cons, List.sum_cons, hcat]; omega) hlocks
  obtain ⟨f1, f2⟩ := vx_frame hsame
  rw [hhp] at f1 f2
  have hWs : s.WarmedH U.vm := State.WarmedH.trans hW0 hW
  have hcl : s.vm.findClass cls = some ce.cls := by
    have h9 := hO.cls
    rw [hvm] at h9
    exact h9
  have hall : s.sameButNew ({ U with vm := s.vm } : State) locs mc ms := by
    subst hA
    obtain ⟨e1, e2⟩ := hsame
    rw [State.setFrames_setFrames] at e1
    have h2 : (T.setVm s.vm).sameButNew ({ U with vm := s.vm } : State) [] (0 + 1) (0 + 6) := ⟨e1, e2⟩
    have h3 := X.same.trans h2
    rw [List.append_nil] at h3
    exact h3.mono hc hs
  refine ⟨U, ?_, .threw T.heap.size, hrun, hend, Or.inr ⟨T.heap.size, rfl, cls, ce, locs, hx U hWs.alike f1 (fun q hq => f2 q hq (fun z hz => nomatch hz)), hce, hO.vm, hcl, hWs, hall, hf⟩⟩
  refine st1 _ ?_
  show Steps p.tables e below (T1.setTop { method := m, pc := pc + 3, locals := ls, stack := .ref T.heap.size :: rest, locked := none }) _
  jvm_step X₁.here [X₁.here.top, hexec, d3', Value.category]
  exact X₁.ldcString hexec (own := own) (text := text) (index := is) (a := sa) hown' hstr'.1 hstr'.2
    (g := { method := m, pc := pc + 4, locals := ls, stack := .ref T.heap.size :: .ref T.heap.size :: rest, locked := none }) rfl d4' _ hsteps
/-- 'throw new E("text")', the text by a wide index -/
theorem vx_throwSW {cc : ByteArray} {pc : Nat} (hexec : p.tables.exec = Jvm.exec) (hb : c.code = cc) (hl : l.stackTraces = false) {own cls text : String} {names : List String} {ik is ic mc ms sa : Nat} {A : Nat → Prop}
    (hown : s.vm.findClass own = some m.cls) (hcls : Bundle.fit cls = true) (hnames : ∀ n ∈ names, Bundle.fit n = true)
    (hk : (Cond.classLink own ik cls).before args s = true) (hini : (Cond.initialized cls).before args s = true) (hstr : vk_R own is text sa s) (hat : ∀ w ∈ vx_atS own ic cls names, w.before args s = true)
    (hgood : ∀ w ∈ Cond.classLink own ik cls :: Cond.initialized cls :: vx_atS own ic cls names, vx_ot w = true)
    (hU : vx_Zq Bundle.tN "UNASSIGNED_STACK" Bundle.steD A s s.heap) (hN : vx_Zq Bundle.tN "SUPPRESSED_SENTINEL" Bundle.listD A s s.heap) (hS : va_S A s.heap H locs) (hsize : ls.size = c.maxLocals)
    (d0 : decode cc pc = .ok (.new ik, 3)) (d3 : decode cc (pc + 3) = .ok (.dup, 1)) (d4 : decode cc (pc + 4) = .ok (.ldc_w is, 3)) (d7 : decode cc (pc + 7) = .ok (.invokespecial ic, 3)) (d10 : decode cc (pc + 10) = .ok (.athrow, 1))
    (hout : ∀ x ∈ c.exceptionTable.toList, covers x (pc + 10) = false)
    (hRframes : names.length + 3 < R.frames) (hRlocals : (rest.map fun v => v.category).sum + (13 * (names.length + 1) + 43) ≤ R.locals) (hRcells : cells + 1 ≤ R.cells) (hRslots : slots + 6 ≤ R.slots) (hlocks : meth.locks = false)
    (hx : ∀ t : State, s.vm.Alike t.vm → H.size ≤ t.heap.size → (∀ q : Nat, q < H.size → t.heap[q]? = H[q]?) → XC cls s t)
    (hf : ∀ z ∈ locs, free z.base) (hc : cells + 1 ≤ mc) (hs : slots + 6 ≤ ms) :
    W p l e R s m args below meth c H locs cells slots (vx_MQ below Qc XC args s mc ms free) (F0 m pc ls rest) := by
  intro T hT X
  have htr : e.platform.stackTraces = false := (show e.platform.stackTraces = l.stackTraces by rw [X.admits.platform]).trans hl
  have Y := vx_rebase X (R' := { frames := R.frames, locals := R.locals, cells := 1, slots := 6 }) (Nat.le_refl _) (Nat.le_refl _) hRcells hRslots
  obtain ⟨s', hA⟩ : ∃ z, z = (T.setVm s.vm).setFrames (.invoking m args :: below) := ⟨_, rfl⟩
  rw [← hA] at Y
  have hvm : s'.vm = s.vm := by rw [hA]; rfl
  have hhp : s'.heap = H := by rw [hA]; exact hT
  have hW0 : s.WarmedH s'.vm := by rw [hvm]; exact State.WarmedH.refl s
  have hat' : ∀ w ∈ vx_atS own ic cls names, w.before args s' = true := fun w hw => vx_ot_at hW0 hvm.symm (hgood w (List.mem_cons_of_mem _ (List.mem_cons_of_mem _ hw))) (hat w hw)
  have hk' : (Cond.classLink own ik cls).before args s' = true := vx_ot_at hW0 hvm.symm (hgood _ List.mem_cons_self) hk
  have hini' : (Cond.initialized cls).before args s' = true := vx_ot_at hW0 hvm.symm (hgood _ (List.mem_cons_of_mem _ List.mem_cons_self)) hini
  have hU' : vx_Zq Bundle.tN "UNASSIGNED_STACK" Bundle.steD A s' s'.heap := by rw [hhp]; exact vx_Zq.moved hW0.alike (hU.kept hS.2.1)
  have hN' : vx_Zq Bundle.tN "SUPPRESSED_SENTINEL" Bundle.listD A s' s'.heap := by rw [hhp]; exact vx_Zq.moved hW0.alike (hN.kept hS.2.1)
  have h : ∀ w ∈ Bundle.ownAtoms own ic cls names, w.before args s' = true := vx_own hat' (vx_isRefq hU'.1) (vx_isRefq hN'.1) hU'.2.word hN'.2.word
  have hown' : s'.vm.findClass own = some m.cls := by rw [hvm]; exact hown
  have hins : (Cond.instantiable cls 6).before args s' = true := h _ (by simp [Bundle.ownAtoms])
  obtain ⟨vm₁, cX, kX, hfX, hkX, -, -, X₁, st1⟩ := Y.newCold hexec (own := own) (C := cls) (index := ik) (n := 6) hown' hk' hins hini'
    (g := F0 m pc ls rest) rfl (by rw [hb]; exact d0) (Nat.le_refl _) (Nat.le_refl _)
  generalize hT1 : (T.setVm vm₁).pushCell { cls := cX, slots := kX.instanceTypes.map defaultValue, vm := .none } = T1 at X₁ st1
  have hcat : (Value.ref T.heap.size).category = 1 := rfl
  have hcellA : T1.heap[T.heap.size]? = some (freshCell cX kX) := by rw [← hT1]; exact State.heap_pushCell_size _ _
  have d3' : decode c.code (pc + 3) = .ok (.dup, 1) := by rw [hb]; exact d3
  have d4' : decode c.code (pc + 4) = .ok (.ldc_w is, 3) := by rw [hb]; exact d4
  have hstr' : vk_R own is text sa s' := vk_R.warm hW0 hstr
  obtain ⟨U, hsteps, hrun, hend, hW, hsame, ce, hce, hO⟩ := X₁.ctorThrowS hexec htr (own := own) (cls := cls) (names := names) (ic := ic) hown' hcls hnames h (fun x hx => nomatch hx) hfX hkX hcellA (by rw [hhp, hT]; exact Nat.le_refl _) (msg := .ref sa) rfl
    (g := { method := m, pc := pc + 7, locals := ls, stack := .ref sa :: .ref T.heap.size :: .ref T.heap.size :: rest, locked := none }) rfl hsize rfl rfl (rest := rest) rfl
    (by rw [hb]; exact d7) (by rw [hb]; exact d10) hout hRframes (by simp only [List.map_cons, List.sum_cons, hcat]; omega) hlocks
  obtain ⟨f1, f2⟩ := vx_frame hsame
  rw [hhp] at f1 f2
  have hWs : s.WarmedH U.vm := State.WarmedH.trans hW0 hW
  have hcl : s.vm.findClass cls = some ce.cls := by
    have h9 := hO.cls
    rw [hvm] at h9
    exact h9
  have hall : s.sameButNew ({ U with vm := s.vm } : State) locs mc ms := by
    subst hA
    obtain ⟨e1, e2⟩ := hsame
    rw [State.setFrames_setFrames] at e1
    have h2 : (T.setVm s.vm).sameButNew ({ U with vm := s.vm } : State) [] (0 + 1) (0 + 6) := ⟨e1, e2⟩
    have h3 := X.same.trans h2
    rw [List.append_nil] at h3
    exact h3.mono hc hs
  refine ⟨U, ?_, .threw T.heap.size, hrun, hend, Or.inr ⟨T.heap.size, rfl, cls, ce, locs, hx U hWs.alike f1 (fun q hq => f2 q hq (fun z hz => nomatch hz)), hce, hO.vm, hcl, hWs, hall, hf⟩⟩
  refine st1 _ ?_
  show Steps p.tables e below (T1.setTop { method := m, pc := pc + 3, locals := ls, stack := .ref T.heap.size :: rest, locked := none }) _
  jvm_step X₁.here [X₁.here.top, hexec, d3', Value.category]
  exact X₁.ldcStringW hexec (own := own) (text := text) (index := is) (a := sa) hown' hstr'.1 hstr'.2
    (g := { method := m, pc := pc + 4, locals := ls, stack := .ref T.heap.size :: .ref T.heap.size :: rest, locked := none }) rfl d4' _ hsteps
end Ends
section Bodies
variable {l : Launch}
theorem vx_ofW {y : MethodName} {ws ws' : List Cond} {rm : Room} {Pc : Array Value → State → Prop} {Qc : Array Value → State → Outcome → State → Prop} {XC : String → State → State → Prop} {mc ms : Nat} {free : Addr → Prop} {cc : ByteArray} {maxL : Nat} {ret : Option FieldType}
    (hy : plainName y.cls = true) (hw : ws = Cond.code y cc maxL ret :: ws')
    (body : ∀ p e s m args below meth c s₁, BodyLoose p l y (headSpec ws rm) cc maxL ret e s m args below meth c s₁ → c.maxLocals = maxL → (∀ x ∈ c.exceptionTable.toList, False) → Pc args s →
      W p l e (headSpec ws rm).room s m args below meth c s.heap [] 0 0 (vx_MQ below Qc XC args s mc ms free) (entryFrame m args maxL)) : vx_Met l y ws rm Pc Qc XC mc ms free := by
  refine MetFree.of_bodyS (code := cc) (maxLocals := maxL) (ret := ret) hy ?_ ?_
  · intro args s m h hn
    obtain ⟨meth, c, h1, h2, h3, h4, h5, h6, -, -⟩ := Cond.code_spec hn (atoms_spec (ws := ws) h _ (by rw [hw]; exact List.mem_cons_self))
    exact ⟨meth, c, h1, h2, h3, h4, h5, h6⟩
  · intro p e s m args below meth c s₁ B hml hP _
    have hh0 : s₁.heap = s.heap := by rw [B.state]; rfl
    have ht : ∀ x ∈ c.exceptionTable.toList, False := by
      obtain ⟨meth9, c9, h1, h2, -, -, -, -, h7, -⟩ := Cond.code_spec B.named (atoms_spec (ws := ws) B.pre _ (by rw [hw]; exact List.mem_cons_self))
      cases Option.some.inj (h1.symm.trans B.method)
      cases Option.some.inj (h2.symm.trans (Stand.of_body B).code)
      intro x hx
      rw [Array.isEmpty_iff.mp h7] at hx
      cases hx
    obtain ⟨t, a1, o, b1, b2, b3⟩ := body p e s m args below meth c s₁ B hml ht hP s₁ hh0 (Stand.of_body B)
    exact ⟨t, o, a1, b1, b2, b3⟩
/-- the table of a body with handlers -/
theorem vx_table {p : Program} {x y : MethodName} {S : Spec} {cc bytes : ByteArray} {maxL maxL' : Nat} {ret ret' : Option FieldType} {e : Env} {s s₁ : State} {m : MethodId} {args : Array Value} {below : List Frame} {meth : Method} {c : Code} {hh : List (Nat × Nat × Nat × Nat)}
    (B : BodyLoose p l y S cc maxL ret e s m args below meth c s₁) (h : (Cond.codeWith y bytes maxL' ret' hh).before args s = true) : c.exceptionTable.toList = tableOf hh := by
  obtain ⟨m9, meth9, c9, hn9, h1, h2, -, -, h6, -⟩ := Cond.codeWith_spec h
  cases Option.some.inj (hn9.symm.trans B.named)
  cases Option.some.inj (h1.symm.trans B.method)
  cases Option.some.inj (h2.symm.trans (Stand.of_body B).code)
  rw [← h6, table_eq]
end Bodies
end VXA
/-! ===== END ===== -/
/-! ===== BEGIN a static call of a method with an exception table ===== -/
section VXS
variable {p : Program} {l : Launch} {e : Env} {R : Room} {s : State} {m : MethodId} {args : Array Value} {below : List Frame} {meth : Method} {c : Code} {T : State} {H : Heap} {locs : List Loc} {cells slots : Nat}
abbrev vx_CSW (R : Room) (s : State) (args : Array Value) (own : String) (index : Nat) (y : MethodName) (bytes : ByteArray) (maxL : Nat) (ret : Option FieldType) (hh : List (Nat × Nat × Nat × Nat)) (ws : List Cond) (rm : Room) (mc ms n : Nat) : Prop :=
  (rm.cells = mc ∧ rm.slots = ms ∧ rm.frames + 1 ≤ R.frames ∧ 8 + (maxL + 11) + rm.locals ≤ R.locals ∧ (∀ w ∈ ws, ∀ (a' : Array Value) (U : State), s.WarmedH U.vm → w.before a' U = true) ∧ Cond.codeWith y bytes maxL ret hh ∈ ws) ∧
  (Cond.codeWith y bytes maxL ret hh).before args s = true ∧ (Cond.initialized y.cls).before args s = true ∧ (y.cls ≠ "java/lang/invoke/MethodHandle" ∧ y.cls ≠ "java/lang/invoke/VarHandle") ∧
  (∀ sig, parseMethodDescriptor y.desc = some sig → n = sig.parameters.length) ∧ (Cond.methodLink own index y).before args s = true ∧ (Cond.static y).before args s = true
theorem vx_cwSW {own : String} {index maxL mc ms : Nat} {y : MethodName} {bytes : ByteArray} {ret : Option FieldType} {hh : List (Nat × Nat × Nat × Nat)} {Ts ws ws' : List Cond} {rm : Room} (n : Nat) (ht : ∀ w ∈ Ts, w.before args s = true) (hT : GoodIn Ts (va_wsS own index y ws)) (hw : ws = Cond.codeWith y bytes maxL ret hh :: ws') (hrc : rm.cells = mc) (hrs : rm.slots = ms)
    (hd : y.cls ≠ "java/lang/invoke/MethodHandle" ∧ y.cls ≠ "java/lang/invoke/VarHandle" ∧ (parseMethodDescriptor y.desc).map (fun d => d.parameters.length) = some n) (hR : rm.frames + 1 ≤ R.frames ∧ 8 + (maxL + 11) + rm.locals ≤ R.locals) :
    vx_CSW R s args own index y bytes maxL ret hh ws rm mc ms n := by
  have ok : ∀ w ∈ va_wsS own index y ws, w.before args s = true := fun w h => ht w (hT w h).1
  have hG : GoodIn Ts ws := fun w h => hT w (by unfold va_wsS; exact List.mem_append_right _ h)
  have hc : Cond.codeWith y bytes maxL ret hh ∈ ws := by rw [hw]; exact List.mem_cons_self
  refine ⟨⟨hrc, hrs, hR.1, hR.2, pay_in ht hG, hc⟩, ht _ (hG _ hc).1, ok _ (by simp [va_wsS]), ⟨hd.1, hd.2.1⟩, fun sig h => ?_, ok _ (by simp [va_wsS]), ok _ (by simp [va_wsS])⟩
  have h2 := hd.2.2
  rw [h] at h2
  exact (Option.some.inj h2).symm
theorem vx_callSW (X : Stand p l e R s m args below meth c T locs cells slots) (hexec : p.tables.exec = Jvm.exec) {own : String} {index : Nat} {y : MethodName} {bytes : ByteArray} {maxL : Nat} {ret : Option FieldType} {hh : List (Nat × Nat × Nat × Nat)}
    (hown : s.vm.findClass own = some m.cls) (hlink : (Cond.methodLink own index y).before args s = true) (hstat : (Cond.static y).before args s = true) (hinit : (Cond.initialized y.cls).before args s = true)
    (hcode : (Cond.codeWith y bytes maxL ret hh).before args s = true) (hy : y.cls ≠ "java/lang/invoke/MethodHandle" ∧ y.cls ≠ "java/lang/invoke/VarHandle")
    {W9 : Nat} {Pre : Pt → Array Value → Prop} {Post : Pt → Array Value → Option Value → Pt → Prop} (hK : Back l R p e below s args y 3 W9 Pre Post)
    {g : JFrame} (hg : g.method = m) (hsize : g.locals.size = c.maxLocals) {argsL rest : List Value} (hlen : ∀ sig, parseMethodDescriptor y.desc = some sig → argsL.length = sig.parameters.length)
    (hstack : g.stack = argsL.reverse ++ rest) (hW : 2 * g.monitorRoom + (rest.map fun v => v.category).sum ≤ W9) (hdg : decode c.code g.pc = .ok (.invokestatic index, 3))
    (hpre : ∀ vm₁, s.WarmedH vm₁ → Pre ⟨T.setVm vm₁, locs, cells, slots⟩ argsL.toArray) :
    ∃ (v : Option Value) (vm₁ : Vm) (B : Pt), s.WarmedH vm₁ ∧ Stand p l e R s m args below meth c B.U B.locs B.cells B.slots ∧ Post ⟨T.setVm vm₁, locs, cells, slots⟩ argsL.toArray v B ∧
      ∀ target, Steps p.tables e below (B.U.setTop { g with pc := g.pc + 3, stack := v.toList ++ rest }) target → Steps p.tables e below (T.setTop g) target := by
  obtain ⟨mk, methM, cM, hnamed, hmethM, -, -, -, -, -, -, hsigM⟩ := Cond.codeWith_spec hcode
  have hstatic : methM.isStatic = true := Cond.static_spec hnamed hmethM hstat
  obtain ⟨kP, hkP, -⟩ := className_of_methodNamed hnamed
  have hinitP : kP.init = .initialized := Cond.initialized_spec (findClass_of_methodNamed hnamed) hkP hinit
  obtain ⟨vm₁, X₁, hstep₁⟩ := X.invokestatic hexec hown hlink hnamed hmethM hstatic hkP hinitP hy (g := g) hg (argsL := argsL) (rest := rest) (hlen _ hsigM) hstack hdg
  obtain ⟨v, B, X', hpost, hsteps⟩ := hK m meth c ⟨T.setVm vm₁, locs, cells, slots⟩ { g with stack := rest } (.invokestatic index) mk argsL.toArray X₁ hg hsize hdg hW (X₁.named hnamed) (hpre vm₁ X₁.warmed)
  exact ⟨v, vm₁, B, X₁.warmed, X', hpost, fun target h => hstep₁ _ fun acts => by rw [doInvoke_state]; exact hsteps.trans h⟩
theorem vx_runSW {y : MethodName} {bytes cc : ByteArray} {maxL nL mc ms n index : Nat} {ret : Option FieldType} {hh : List (Nat × Nat × Nat × Nat)} {ws : List Cond} {rm : Room} {Pc : Array Value → State → Prop} {Qc : Array Value → State → Outcome → State → Prop} {free : Addr → Prop} {Ts : List Cond} {own : String} {As rest : List Value} {g : JFrame}
    (S : CallFix p m c cc nL s args Ts own) (hM : Met l y ws rm Pc Qc mc ms free) (cw : vx_CSW R s args own index y bytes maxL ret hh ws rm mc ms n) (hp : PreS s H Pc As)
    (hg : g.method = m) (hn : As.length = n) (hsize : g.locals.size = nL) (hstack : g.stack = As.reverse ++ rest) (hW : 2 * g.monitorRoom + (rest.map fun v => v.category).sum ≤ 8) (hdg : decode cc g.pc = .ok (.invokestatic index, 3)) (hf : cells + mc ≤ R.cells ∧ slots + ms ≤ R.slots) :
    va_Run p l e R s m args below meth c H locs cells slots mc ms g rest (Qc As.toArray) (free) := by
  obtain ⟨⟨hrc, hrs, hfr, hlo, hws, hcw⟩, hcode, hini, hy, hlen, hl, hstt⟩ := cw
  have hK : Back l R p e below s args y 3 8 (PreOf R mc ms Pc) (PostOf Qc mc ms free) := va_backW (hh := hh) (bytes := bytes) (maxL := maxL) (ret := ret) hM hp.1 hrc hrs hfr hlo hws hcw (fun a' U hW => word_at hW (Or.inl (by first | rfl | simp [Cond.onTables, Cond.keeps, Cond.steady])) hini)
  obtain ⟨hx, hb, hml, ho, -⟩ := S
  intro T hT X
  obtain ⟨v, vm₁, ⟨U', l2, c2, s2⟩, hW₁, X', ⟨g', mk, t, L, e1, e2, hq, h1, hL, h2, h3⟩, st⟩ := vx_callSW X hx (hh := hh) (bytes := bytes) (maxL := maxL) (ret := ret) ho hl hstt hini hcode hy hK hg (hsize.trans hml.symm) (argsL := As) (rest := rest) (fun sig h => hn.trans (hlen sig h)) hstack hW (by rw [hb]; exact hdg)
    (fun vm₁ hW₁ => ⟨hf.1, hf.2, hp.2 (T.setVm vm₁) hT hW₁⟩)
  dsimp only [Pt.U, Pt.locs, Pt.cells, Pt.slots] at X' e1 e2 h1 h2 h3 st
  subst h1; subst h2; subst h3
  exact ⟨v, (T.setVm vm₁).calling g' mk As.toArray, t, U', L, hT, X', hL, e1, e2, hq, st⟩
/-- not caught here, past rows that name other classes: it goes on to the caller -/
theorem vx_outP {p : Program} {l : Launch} {e : Env} {R : Room} {s : State} {m : MethodId} {args : Array Value} {below : List Frame} {meth : Method} {c : Code} {H : Heap} {locs : List Loc} {cells slots : Nat} {free : Addr → Prop} {ls : Array Slot} {rest : List Value} {Qc : Array Value → State → Outcome → State → Prop} {XC : String → State → State → Prop}
    {pc : Nat} {own E : String} {ce : Cell} {q : Addr} {mc ms : Nat} (hown : s.vm.findClass own = some m.cls) (hlocks : meth.locks = false)
    (hpass : ∀ z ∈ c.exceptionTable.toList, covers z pc = false ∨ (z.catchType ≠ 0 ∧ ∃ nm : String, (Cond.classLink own z.catchType nm).before args s = true ∧ va_Nc E nm s)) (hcell : H[q]? = some ce) (hv : ce.vm = .none) (hcl : s.vm.findClass E = some ce.cls)
    (hx : ∀ t : State, t.heap = H → s.vm.Alike t.vm → XC E s t) (hf : ∀ z ∈ locs, free z.base) (hc : cells ≤ mc) (hs : slots ≤ ms) :
    vx_W p l e R s m args below meth c H locs cells slots (vx_MQ below Qc XC args s mc ms free) (F0 m pc ls rest) q := by
  intro T hT X
  have hpl : e.platform.magicAccessors = ({} : Platform).magicAccessors := by rw [X.admits.platform]
  obtain ⟨vm', hW', X', st⟩ := X.outThrough hlocks q (g := F0 m pc ls rest) rfl rfl rfl (cell := ce) (by rw [hT]; exact hcell) (by rw [hv]; rfl)
    (by obtain ⟨k9, h9, -⟩ := Vm.findClass_spec hcl; exact ⟨k9, h9⟩) (fun z hz => by
      rcases hpass z hz with h | ⟨hz0, nm, hl1, hn1⟩
      · exact Or.inl h
      · obtain ⟨c6, hc6, hcl6⟩ := Cond.classLink_spec hown hl1 e.platform hpl
        obtain ⟨a8, b8, h1, h2, h3⟩ := hn1
        cases Option.some.inj (h1.symm.trans hcl)
        cases Option.some.inj (h2.symm.trans hc6)
        exact Or.inr ⟨hz0, _, hcl6, h3⟩)
  obtain ⟨g₀, hfr⟩ := X'.frames_eq
  have hcell9 : ((T.setVm vm').setFrames (.throwing q :: below)).heap[q]? = some ce := by
    show T.heap[q]? = some ce
    rw [hT]; exact hcell
  have hend : Ended ((T.setVm vm').setFrames (.throwing q :: below)) below (.threw q) := State.frames_setFrames _ (State.cur_lt_of_frames hfr)
  refine ⟨(T.setVm vm').setFrames (.throwing q :: below), ?_, .threw q, X'.here.running, hend, Or.inr ⟨q, rfl, E, ce, locs, hx _ hT (X'.ends _).1.alike, hcell9, hv, hcl, (X'.ends _).1, (X'.ends _).2.mono hc hs, hf⟩⟩
  rw [X.pushThrowing_eq]
  exact st
/-- a thing of a world lies in the heap -/
theorem vx_lt {D : va_G} {cl : List vw_C} {ws : va_W} {H1 : Heap} (h : va_P D cl ws H1) {k : Nat} {q : Nat × va_E} (hk : ws[k]? = some q) : q.1 < H1.size := (h k q hk).lt
end VXS
/-! ===== END ===== -/
/-! ===== BEGIN methods with a table of their own: called by a name, returning or throwing ===== -/
section VXH
/-! vx_backW, vx_callVX, vx_callSX, vx_callVW, vx_runVW, vx_runVX, vx_runSX, vx_ofWH follow the same proofs as their sisters above (Free/Laws.lean, Shelf42/LK1.lean); vx_outP calls Shelf42/NT130.lean (outThrough). -/
section
variable {l : Launch} {R : Room} {p : Program} {e : Env} {below : List Frame} {s : State} {sargs : Array Value} {y : MethodName} {len W9 : Nat}
theorem vx_backW {ws : List Cond} {rm : Room} {Pc : Array Value → State → Prop} {Qc : Array Value → State → Outcome → State → Prop} {XC : String → State → State → Prop} {mc ms : Nat} {free : Addr → Prop} {bytes : ByteArray} {maxL : Nat} {ret : Option FieldType} {hh : List (Nat × Nat × Nat × Nat)}
    (hM : vx_Met l y ws rm Pc Qc XC mc ms free) (hblind : FrameBlind Pc) (hrc : rm.cells = mc) (hrs : rm.slots = ms)
    (hframes : rm.frames + 1 ≤ R.frames) (hlocals : W9 + (maxL + 11) + rm.locals ≤ R.locals)
    (hws : ∀ w ∈ ws, ∀ a' U, s.WarmedH U.vm → w.before a' U = true) (hcode : Cond.codeWith y bytes maxL ret hh ∈ ws) (hinit : ∀ a' U, s.WarmedH U.vm → (Cond.initialized y.cls).before a' U = true) :
    vx_Back l R p e below s sargs y len W9 (PreOf R mc ms Pc) (PostOf Qc mc ms free) (vx_Post XC mc ms free) := by
  intro m meth c A g ig mk a X hg hsize hdg hW hn hp
  have h1 : (headSpec ws rm).pre.before a A.U = true := atoms_intro fun w hw => hws w hw _ _ X.warmed
  have h2 : (Cond.codeWith y bytes maxL ret hh).before a A.U = true := hws _ hcode _ _ X.warmed
  have h3 : (Cond.initialized y.cls).before a A.U = true := hinit _ _ X.warmed
  have h4 : A.cells + (headSpec ws rm).room.cells ≤ R.cells := by rw [show (headSpec ws rm).room.cells = mc from hrc]; exact hp.1
  have h5 : A.slots + (headSpec ws rm).room.slots ≤ R.slots := by rw [show (headSpec ws rm).room.slots = ms from hrs]; exact hp.2.1
  have hPc : Pc a (A.U.calling g mk a) := hblind _ _ _ _ hp.2.2
  obtain ⟨U, Ls, c0, s0⟩ := A
  dsimp only [Pt.U, Pt.locs, Pt.cells, Pt.slots] at h1 h2 h3 h4 h5 X hn hPc ⊢
  obtain ⟨m9, methY, cY, hn9, hmY, hcY, -, hlY, -⟩ := Cond.codeWith_spec h2
  cases Option.some.inj (hn9.symm.trans hn)
  obtain ⟨kY, hkY, -⟩ := className_of_methodNamed hn
  have hinitY : kY.init = .initialized := Cond.initialized_spec (findClass_of_methodNamed hn) hkY h3
  have h : At U g.method c below := by rw [hg]; exact X.here
  have hlocals9 : W9 + (maxL + 11) + (headSpec ws rm).room.locals ≤ R.locals := hlocals
  have happ : (headSpec ws rm).appliesLoose y e.platform (U.calling g mk a) = true :=
    Spec.appliesLoose_calling (g := g) h hdg hn hkY hinitY
      (X.room_calling (g := g) (R' := (headSpec ws rm).room) hsize hmY hcY hframes (by rw [hlY]; omega) h4 h5) h1
  obtain ⟨mid, hmid⟩ := h.above
  have hfr : (U.setTop g).frames = (.java g :: mid) ++ below := by rw [State.frames_setTop' g h.top, hmid]; rfl
  obtain ⟨o, s₂, hsteps, -, hend, hq⟩ := Steps.callFree hM p X.admits X.cas X.clock (acts := []) hfr happ hPc trivial
  have hq' : vx_Q Qc XC mc ms free a (U.calling g mk a) o s₂ := hq
  rw [State.frames_setTop' g h.top] at hend
  obtain ⟨g₀, hg0⟩ := Option.isSome_iff_exists.mp h.top
  obtain ⟨r, hr⟩ := State.topJava?_eq_some.mp hg0
  have hr' : (({ U with heap := s₂.heap, slotsUsed := s₂.slotsUsed } : State).setVm s₂.vm).frames = .java g₀ :: r := hr
  rcases hq' with ⟨hqc, L, hfe, hL⟩ | ⟨q, rfl, E, ce, L, hx, hce, hcv, hcl, hW₂, hsm, hL⟩
  · obtain ⟨⟨v, rfl⟩, hW₂, e2, q2, q3, q4, q5, q6⟩ := id hfe
    have e3 : s₂ = ({ (U.calling g mk a).setFrames s₂.frames with heap := s₂.heap, slotsUsed := s₂.slotsUsed } : State).setVm s₂.vm := by
      have : s₂ = ({ s₂ with vm := (U.calling g mk a).vm } : State).setVm s₂.vm := rfl
      rw [e2] at this
      exact this
    obtain ⟨c₂, i₂, len₂, hc₂, hd₂, hf₂⟩ := hend
    have hW' : U.WarmedH s₂.vm := hW₂
    have hcc : c₂ = c := by
      have h1 : s₂.code? g.method = U.code? g.method := by
        rw [State.code?_eq, State.code?_eq, hW'.alike.method?]
      exact Option.some.inj (hc₂.symm.trans (h1.trans h.code))
    subst hcc
    have hlen : len₂ = len := by rw [hdg] at hd₂; cases hd₂; rfl
    subst hlen
    have hs₂ : s₂ = (({ U with heap := s₂.heap, slotsUsed := s₂.slotsUsed } : State).setVm s₂.vm).setTop { g with pc := g.pc + len₂, stack := v.toList ++ g.stack } := by
      refine e3.trans ?_
      rw [hf₂, State.calling_eq h.top, State.setFrames_setFrames, State.setTop_of_frames _ hr', hr]
      rfl
    have hsame : U.sameButNew ({ U with heap := s₂.heap, slotsUsed := s₂.slotsUsed } : State) L mc ms := by
      refine ⟨?_, q2, q3, q4, q5, q6⟩
      obtain ⟨t, ht, -⟩ := State.frames_cons hr
      show ({ U with heap := s₂.heap, slotsUsed := s₂.slotsUsed } : State) = { U.setFrames U.frames with heap := s₂.heap, slotsUsed := s₂.slotsUsed }
      rw [State.setFrames_self ht]
    subst hg
    refine Or.inl ⟨v, ⟨(({ U with heap := s₂.heap, slotsUsed := s₂.slotsUsed } : State).setVm s₂.vm), Ls ++ L, c0 + mc, s0 + ms⟩,
      ⟨X.admits, X.cas, X.clock, X.frames, X.room, X.hears, X.method, X.code, (X.here.setHeapUsed s₂.heap s₂.slotsUsed).setVm hW'.alike, X.tail, State.WarmedH.trans X.warmed hW', X.limits, X.bytes, X.same.trans (hsame.setVm s.vm)⟩,
      ⟨g, mk, s₂, L, rfl, rfl, hqc, rfl, hL, rfl, rfl⟩, ?_⟩
    show Steps p.tables e below _ ((({ U with heap := s₂.heap, slotsUsed := s₂.slotsUsed } : State).setVm s₂.vm).setTop { g with pc := g.pc + len₂, stack := v.toList ++ g.stack })
    rw [← hs₂]
    exact hsteps
  · obtain ⟨e2, q2, q3, q4, q5, q6⟩ := id hsm
    have e3 : s₂ = ({ (U.calling g mk a).setFrames s₂.frames with heap := s₂.heap, slotsUsed := s₂.slotsUsed } : State).setVm s₂.vm := by
      have : s₂ = ({ s₂ with vm := (U.calling g mk a).vm } : State).setVm s₂.vm := rfl
      rw [e2] at this
      exact this
    have hf₂ : s₂.frames = .throwing q :: .java g :: U.frames.tail := hend
    have hW' : U.WarmedH s₂.vm := hW₂
    have hs₂ : s₂ = ((({ U with heap := s₂.heap, slotsUsed := s₂.slotsUsed } : State).setVm s₂.vm).setTop g).pushFrame (.throwing q) := by
      refine e3.trans ?_
      rw [hf₂, State.calling_eq h.top, State.setFrames_setFrames, State.pushFrame, State.frames_setTop _ hr', State.setTop_of_frames _ hr', State.setFrames_setFrames, hr]
      rfl
    have hsame : U.sameButNew ({ U with heap := s₂.heap, slotsUsed := s₂.slotsUsed } : State) L mc ms := by
      refine ⟨?_, q2, q3, q4, q5, q6⟩
      obtain ⟨t, ht, -⟩ := State.frames_cons hr
      show ({ U with heap := s₂.heap, slotsUsed := s₂.slotsUsed } : State) = { U.setFrames U.frames with heap := s₂.heap, slotsUsed := s₂.slotsUsed }
      rw [State.setFrames_self ht]
    subst hg
    refine Or.inr ⟨q, ⟨(({ U with heap := s₂.heap, slotsUsed := s₂.slotsUsed } : State).setVm s₂.vm), Ls ++ L, c0 + mc, s0 + ms⟩,
      ⟨X.admits, X.cas, X.clock, X.frames, X.room, X.hears, X.method, X.code, (X.here.setHeapUsed s₂.heap s₂.slotsUsed).setVm hW'.alike, X.tail, State.WarmedH.trans X.warmed hW', X.limits, X.bytes, X.same.trans (hsame.setVm s.vm)⟩,
      ⟨g, mk, s₂, L, E, ce, rfl, rfl, hx, hce, hcv, hcl, rfl, hL, rfl, rfl⟩, ?_⟩
    show Steps p.tables e below _ (((({ U with heap := s₂.heap, slotsUsed := s₂.slotsUsed } : State).setVm s₂.vm).setTop g).pushFrame (.throwing q))
    rw [← hs₂]
    exact hsteps
end
variable {p : Program} {l : Launch} {e : Env} {R : Room} {s : State} {m : MethodId} {args : Array Value} {below : List Frame} {meth : Method} {c : Code} {T : State} {H : Heap} {locs : List Loc} {cells slots : Nat}
theorem vx_callVX (X : Stand p l e R s m args below meth c T locs cells slots) (hexec : p.tables.exec = Jvm.exec) {own C : String} {index : Nat} {y : MethodName} {bytes : ByteArray} {maxL : Nat} {ret : Option FieldType} {hh : List (Nat × Nat × Nat × Nat)}
    (hown : s.vm.findClass own = some m.cls) (hlink : (Cond.methodLink own index y).before args s = true) (hinst : (Cond.instanceMethod y).before args s = true) (hsel : (Cond.selects C y y).before args s = true)
    (hcode : (Cond.codeWith y bytes maxL ret hh).before args s = true) (hy : y.cls ≠ "java/lang/invoke/MethodHandle" ∧ y.cls ≠ "java/lang/invoke/VarHandle")
    {W9 : Nat} {Pre : Pt → Array Value → Prop} {Post : Pt → Array Value → Option Value → Pt → Prop} {PostX : Pt → Array Value → Addr → Pt → Prop} (hK : vx_Back l R p e below s args y 3 W9 Pre Post PostX)
    {b : Addr} {cellB : Cell} (hcell : T.heap[b]? = some cellB) (hobj : cellB.vm.isStatics = false) (hcls : s.vm.findClass C = some cellB.cls)
    {g : JFrame} (hg : g.method = m) (hsize : g.locals.size = c.maxLocals) {argsL rest : List Value} (hlen : ∀ sig, parseMethodDescriptor y.desc = some sig → argsL.length = sig.parameters.length)
    (hstack : g.stack = argsL.reverse ++ .ref b :: rest) (hW : 2 * g.monitorRoom + (rest.map fun v => v.category).sum ≤ W9) (hdg : decode c.code g.pc = .ok (.invokevirtual index, 3))
    (hpre : ∀ vm₁, s.WarmedH vm₁ → Pre ⟨T.setVm vm₁, locs, cells, slots⟩ (Value.ref b :: argsL).toArray) :
    (∃ (v : Option Value) (vm₁ : Vm) (B : Pt), s.WarmedH vm₁ ∧ Stand p l e R s m args below meth c B.U B.locs B.cells B.slots ∧ Post ⟨T.setVm vm₁, locs, cells, slots⟩ (Value.ref b :: argsL).toArray v B ∧
      ∀ target, Steps p.tables e below (B.U.setTop { g with pc := g.pc + 3, stack := v.toList ++ rest }) target → Steps p.tables e below (T.setTop g) target) ∨
    (∃ (q : Addr) (vm₁ : Vm) (B : Pt), s.WarmedH vm₁ ∧ Stand p l e R s m args below meth c B.U B.locs B.cells B.slots ∧ PostX ⟨T.setVm vm₁, locs, cells, slots⟩ (Value.ref b :: argsL).toArray q B ∧
      Steps p.tables e below (T.setTop g) ((B.U.setTop { g with stack := rest }).pushFrame (.throwing q))) := by
  obtain ⟨mk, methM, hnamed, hmethM, hstM, habM⟩ := Cond.instanceMethod_spec hinst
  obtain ⟨m8, methM', cM, hn8, hmethM', -, -, -, -, -, -, hsigM⟩ := Cond.codeWith_spec hcode
  cases Option.some.inj (hn8.symm.trans hnamed)
  cases hmethM.symm.trans hmethM'
  obtain ⟨c2, r2, m2, q1, q2, q3, q4, kP, hkP, hkPi⟩ := Cond.selects_spec hsel
  cases hcls.symm.trans q1
  cases (State.methodFound?_of_named hnamed hy).symm.trans q2
  cases hnamed.symm.trans q3
  have hselP : selectMethod e.platform s.vm cellB.cls mk = .method mk := by rw [Launch.admits_selectMethod X.admits]; exact q4
  obtain ⟨vm₁, X₁, hstep₁⟩ := X.invokevirtual hexec hown hlink hnamed hmethM hstM hkP hkPi hy (a := b) (cell := cellB) hcell
    (fun z h => by rw [h] at hobj; cases hobj) hselP hmethM habM hkP hkPi (g := g) hg (argsL := argsL) (rest := rest) (hlen _ hsigM) hstack hdg
  rcases hK m meth c ⟨T.setVm vm₁, locs, cells, slots⟩ { g with stack := rest } (.invokevirtual index) mk (Value.ref b :: argsL).toArray X₁ hg hsize hdg hW (X₁.named hnamed) (hpre vm₁ X₁.warmed) with ⟨v, B, X', hpost, hsteps⟩ | ⟨q, B, X', hpost, hsteps⟩
  · exact Or.inl ⟨v, vm₁, B, X₁.warmed, X', hpost, fun target h => hstep₁ _ fun acts => by rw [doInvoke_state]; exact hsteps.trans h⟩
  · exact Or.inr ⟨q, vm₁, B, X₁.warmed, X', hpost, hstep₁ _ fun acts => by rw [doInvoke_state]; exact hsteps⟩
theorem vx_callSX (X : Stand p l e R s m args below meth c T locs cells slots) (hexec : p.tables.exec = Jvm.exec) {own : String} {index : Nat} {y : MethodName} {bytes : ByteArray} {maxL : Nat} {ret : Option FieldType} {hh : List (Nat × Nat × Nat × Nat)}
    (hown : s.vm.findClass own = some m.cls) (hlink : (Cond.methodLink own index y).before args s = true) (hstat : (Cond.static y).before args s = true) (hinit : (Cond.initialized y.cls).before args s = true)
    (hcode : (Cond.codeWith y bytes maxL ret hh).before args s = true) (hy : y.cls ≠ "java/lang/invoke/MethodHandle" ∧ y.cls ≠ "java/lang/invoke/VarHandle")
    {W9 : Nat} {Pre : Pt → Array Value → Prop} {Post : Pt → Array Value → Option Value → Pt → Prop} {PostX : Pt → Array Value → Addr → Pt → Prop} (hK : vx_Back l R p e below s args y 3 W9 Pre Post PostX)
    {g : JFrame} (hg : g.method = m) (hsize : g.locals.size = c.maxLocals) {argsL rest : List Value} (hlen : ∀ sig, parseMethodDescriptor y.desc = some sig → argsL.length = sig.parameters.length)
    (hstack : g.stack = argsL.reverse ++ rest) (hW : 2 * g.monitorRoom + (rest.map fun v => v.category).sum ≤ W9) (hdg : decode c.code g.pc = .ok (.invokestatic index, 3))
    (hpre : ∀ vm₁, s.WarmedH vm₁ → Pre ⟨T.setVm vm₁, locs, cells, slots⟩ argsL.toArray) :
    (∃ (v : Option Value) (vm₁ : Vm) (B : Pt), s.WarmedH vm₁ ∧ Stand p l e R s m args below meth c B.U B.locs B.cells B.slots ∧ Post ⟨T.setVm vm₁, locs, cells, slots⟩ argsL.toArray v B ∧
      ∀ target, Steps p.tables e below (B.U.setTop { g with pc := g.pc + 3, stack := v.toList ++ rest }) target → Steps p.tables e below (T.setTop g) target) ∨
    (∃ (q : Addr) (vm₁ : Vm) (B : Pt), s.WarmedH vm₁ ∧ Stand p l e R s m args below meth c B.U B.locs B.cells B.slots ∧ PostX ⟨T.setVm vm₁, locs, cells, slots⟩ argsL.toArray q B ∧
      Steps p.tables e below (T.setTop g) ((B.U.setTop { g with stack := rest }).pushFrame (.throwing q))) := by
  obtain ⟨mk, methM, cM, hnamed, hmethM, -, -, -, -, -, -, hsigM⟩ := Cond.codeWith_spec hcode
  have hstatic : methM.isStatic = true := Cond.static_spec hnamed hmethM hstat
  obtain ⟨kP, hkP, -⟩ := className_of_methodNamed hnamed
  have hinitP : kP.init = .initialized := Cond.initialized_spec (findClass_of_methodNamed hnamed) hkP hinit
  obtain ⟨vm₁, X₁, hstep₁⟩ := X.invokestatic hexec hown hlink hnamed hmethM hstatic hkP hinitP hy (g := g) hg (argsL := argsL) (rest := rest) (hlen _ hsigM) hstack hdg
  rcases hK m meth c ⟨T.setVm vm₁, locs, cells, slots⟩ { g with stack := rest } (.invokestatic index) mk argsL.toArray X₁ hg hsize hdg hW (X₁.named hnamed) (hpre vm₁ X₁.warmed) with ⟨v, B, X', hpost, hsteps⟩ | ⟨q, B, X', hpost, hsteps⟩
  · exact Or.inl ⟨v, vm₁, B, X₁.warmed, X', hpost, fun target h => hstep₁ _ fun acts => by rw [doInvoke_state]; exact hsteps.trans h⟩
  · exact Or.inr ⟨q, vm₁, B, X₁.warmed, X', hpost, hstep₁ _ fun acts => by rw [doInvoke_state]; exact hsteps⟩
theorem vx_callVW (X : Stand p l e R s m args below meth c T locs cells slots) (hexec : p.tables.exec = Jvm.exec) {own C : String} {index : Nat} {y : MethodName} {bytes : ByteArray} {maxL : Nat} {ret : Option FieldType} {hh : List (Nat × Nat × Nat × Nat)}
    (hown : s.vm.findClass own = some m.cls) (hlink : (Cond.methodLink own index y).before args s = true) (hinst : (Cond.instanceMethod y).before args s = true) (hsel : (Cond.selects C y y).before args s = true)
    (hcode : (Cond.codeWith y bytes maxL ret hh).before args s = true) (hy : y.cls ≠ "java/lang/invoke/MethodHandle" ∧ y.cls ≠ "java/lang/invoke/VarHandle")
    {W9 : Nat} {Pre : Pt → Array Value → Prop} {Post : Pt → Array Value → Option Value → Pt → Prop} (hK : Back l R p e below s args y 3 W9 Pre Post)
    {b : Addr} {cellB : Cell} (hcell : T.heap[b]? = some cellB) (hobj : cellB.vm.isStatics = false) (hcls : s.vm.findClass C = some cellB.cls)
    {g : JFrame} (hg : g.method = m) (hsize : g.locals.size = c.maxLocals) {argsL rest : List Value} (hlen : ∀ sig, parseMethodDescriptor y.desc = some sig → argsL.length = sig.parameters.length)
    (hstack : g.stack = argsL.reverse ++ .ref b :: rest) (hW : 2 * g.monitorRoom + (rest.map fun v => v.category).sum ≤ W9) (hdg : decode c.code g.pc = .ok (.invokevirtual index, 3))
    (hpre : ∀ vm₁, s.WarmedH vm₁ → Pre ⟨T.setVm vm₁, locs, cells, slots⟩ (Value.ref b :: argsL).toArray) :
    ∃ (v : Option Value) (vm₁ : Vm) (B : Pt), s.WarmedH vm₁ ∧ Stand p l e R s m args below meth c B.U B.locs B.cells B.slots ∧ Post ⟨T.setVm vm₁, locs, cells, slots⟩ (Value.ref b :: argsL).toArray v B ∧
      ∀ target, Steps p.tables e below (B.U.setTop { g with pc := g.pc + 3, stack := v.toList ++ rest }) target → Steps p.tables e below (T.setTop g) target := by
  obtain ⟨mk, methM, hnamed, hmethM, hstM, habM⟩ := Cond.instanceMethod_spec hinst
  obtain ⟨m8, methM', cM, hn8, hmethM', -, -, -, -, -, -, hsigM⟩ := Cond.codeWith_spec hcode
  cases Option.some.inj (hn8.symm.trans hnamed)
  cases hmethM.symm.trans hmethM'
  obtain ⟨c2, r2, m2, q1, q2, q3, q4, kP, hkP, hkPi⟩ := Cond.selects_spec hsel
  cases hcls.symm.trans q1
  cases (State.methodFound?_of_named hnamed hy).symm.trans q2
  cases hnamed.symm.trans q3
  have hselP : selectMethod e.platform s.vm cellB.cls mk = .method mk := by rw [Launch.admits_selectMethod X.admits]; exact q4
  obtain ⟨vm₁, X₁, hstep₁⟩ := X.invokevirtual hexec hown hlink hnamed hmethM hstM hkP hkPi hy (a := b) (cell := cellB) hcell
    (fun z h => by rw [h] at hobj; cases hobj) hselP hmethM habM hkP hkPi (g := g) hg (argsL := argsL) (rest := rest) (hlen _ hsigM) hstack hdg
  obtain ⟨v, B, X', hpost, hsteps⟩ := hK m meth c ⟨T.setVm vm₁, locs, cells, slots⟩ { g with stack := rest } (.invokevirtual index) mk (Value.ref b :: argsL).toArray X₁ hg hsize hdg hW (X₁.named hnamed) (hpre vm₁ X₁.warmed)
  exact ⟨v, vm₁, B, X₁.warmed, X', hpost, fun target h => hstep₁ _ fun acts => by rw [doInvoke_state]; exact hsteps.trans h⟩
abbrev vx_CVW (R : Room) (s : State) (args : Array Value) (own C : String) (index : Nat) (y : MethodName) (bytes : ByteArray) (maxL : Nat) (ret : Option FieldType) (hh : List (Nat × Nat × Nat × Nat)) (ws : List Cond) (rm : Room) (mc ms n : Nat) : Prop :=
  (rm.cells = mc ∧ rm.slots = ms ∧ rm.frames + 1 ≤ R.frames ∧ 8 + (maxL + 11) + rm.locals ≤ R.locals ∧ (∀ w ∈ ws, ∀ (a' : Array Value) (U : State), s.WarmedH U.vm → w.before a' U = true) ∧ Cond.codeWith y bytes maxL ret hh ∈ ws) ∧
  (Cond.codeWith y bytes maxL ret hh).before args s = true ∧ (Cond.initialized y.cls).before args s = true ∧ (y.cls ≠ "java/lang/invoke/MethodHandle" ∧ y.cls ≠ "java/lang/invoke/VarHandle") ∧
  (∀ sig, parseMethodDescriptor y.desc = some sig → n = sig.parameters.length) ∧ (Cond.methodLink own index y).before args s = true ∧ (Cond.instanceMethod y).before args s = true ∧ (Cond.selects C y y).before args s = true
theorem vx_cwVW {own C : String} {index maxL mc ms : Nat} {y : MethodName} {bytes : ByteArray} {ret : Option FieldType} {hh : List (Nat × Nat × Nat × Nat)} {Ts ws ws' : List Cond} {rm : Room} (n : Nat) (ht : ∀ w ∈ Ts, w.before args s = true) (hT : GoodIn Ts (wsV own index C y ws)) (hw : ws = Cond.codeWith y bytes maxL ret hh :: ws') (hrc : rm.cells = mc) (hrs : rm.slots = ms)
    (hd : y.cls = C ∧ y.cls ≠ "java/lang/invoke/MethodHandle" ∧ y.cls ≠ "java/lang/invoke/VarHandle" ∧ (parseMethodDescriptor y.desc).map (fun d => d.parameters.length) = some n) (hR : rm.frames + 1 ≤ R.frames ∧ 8 + (maxL + 11) + rm.locals ≤ R.locals) :
    vx_CVW R s args own C index y bytes maxL ret hh ws rm mc ms n := by
  obtain ⟨hC, hd⟩ := hd
  subst hC
  have ok : ∀ w ∈ wsV own index y.cls y ws, w.before args s = true := fun w h => ht w (hT w h).1
  have hG : GoodIn Ts ws := fun w h => hT w (by unfold wsV; exact List.mem_append_right _ h)
  have hc : Cond.codeWith y bytes maxL ret hh ∈ ws := by rw [hw]; exact List.mem_cons_self
  refine ⟨⟨hrc, hrs, hR.1, hR.2, pay_in ht hG, hc⟩, ht _ (hG _ hc).1, ok _ (by simp [wsV]), ⟨hd.1, hd.2.1⟩, fun sig h => ?_, ok _ (by simp [wsV]), ok _ (by simp [wsV]), ok _ (by simp [wsV])⟩
  have h2 := hd.2.2
  rw [h] at h2
  exact (Option.some.inj h2).symm
theorem vx_runVW {y : MethodName} {bytes cc : ByteArray} {maxL nL mc ms n index : Nat} {ret : Option FieldType} {hh : List (Nat × Nat × Nat × Nat)} {ws : List Cond} {rm : Room} {Pc : Array Value → State → Prop} {Qc : Array Value → State → Outcome → State → Prop} {free : Addr → Prop} {Ts : List Cond} {own C : String} {b : Addr} {As rest : List Value} {g : JFrame}
    (S : CallFix p m c cc nL s args Ts own) (hM : Met l y ws rm Pc Qc mc ms free) (cw : vx_CVW R s args own C index y bytes maxL ret hh ws rm mc ms n) (hp : PreV s H C b Pc As)
    (hg : g.method = m) (hn : As.length = n) (hsize : g.locals.size = nL) (hstack : g.stack = As.reverse ++ .ref b :: rest) (hW : 2 * g.monitorRoom + (rest.map fun v => v.category).sum ≤ 8) (hdg : decode cc g.pc = .ok (.invokevirtual index, 3)) (hf : cells + mc ≤ R.cells ∧ slots + ms ≤ R.slots) :
    va_Run p l e R s m args below meth c H locs cells slots mc ms g rest (Qc (Value.ref b :: As).toArray) free := by
  obtain ⟨⟨hrc, hrs, hfr, hlo, hws, hcw⟩, hcode, hini, hy, hlen, hl, hin, hse⟩ := cw
  have hK : Back l R p e below s args y 3 8 (PreOf R mc ms Pc) (PostOf Qc mc ms free) := va_backW (hh := hh) (bytes := bytes) (maxL := maxL) (ret := ret) hM hp.1 hrc hrs hfr hlo hws hcw (fun a' U hW => word_at hW (Or.inl (by first | rfl | simp [Cond.onTables, Cond.keeps, Cond.steady])) hini)
  obtain ⟨hx, hb, hml, ho, -⟩ := S
  obtain ⟨-, ⟨cellB, hcB, hoB, hclB⟩, hPc⟩ := hp
  intro T hT X
  obtain ⟨v, vm₁, ⟨U', l2, c2, s2⟩, hW₁, X', ⟨g', mk, t, L, e1, e2, hq, h1, hL, h2, h3⟩, st⟩ := vx_callVW X hx (C := C) (hh := hh) (bytes := bytes) (maxL := maxL) (ret := ret) ho hl hin hse hcode hy hK (by rw [hT]; exact hcB) hoB hclB hg (hsize.trans hml.symm) (argsL := As) (rest := rest) (fun sig h => hn.trans (hlen sig h)) hstack hW (by rw [hb]; exact hdg)
    (fun vm₁ hW₁ => ⟨hf.1, hf.2, hPc (T.setVm vm₁) hT hW₁⟩)
  dsimp only [Pt.U, Pt.locs, Pt.cells, Pt.slots] at X' e1 e2 h1 h2 h3 st
  subst h1; subst h2; subst h3
  exact ⟨v, (T.setVm vm₁).calling g' mk (Value.ref b :: As).toArray, t, U', L, hT, X', hL, e1, e2, hq, st⟩
section
variable {y : MethodName} {bytes cc : ByteArray} {maxL nL mc ms n index : Nat} {ret : Option FieldType} {ws : List Cond} {rm : Room} {Pc : Array Value → State → Prop} {Qc : Array Value → State → Outcome → State → Prop} {XC : String → State → State → Prop} {free : Addr → Prop} {Ts : List Cond} {own C : String} {b : Addr} {As rest : List Value} {g : JFrame}
theorem vx_runVX {hh : List (Nat × Nat × Nat × Nat)} (S : CallFix p m c cc nL s args Ts own) (hM : vx_Met l y ws rm Pc Qc XC mc ms free) (cw : vx_CVW R s args own C index y bytes maxL ret hh ws rm mc ms n) (hp : PreV s H C b Pc As)
    (hg : g.method = m) (hn : As.length = n) (hsize : g.locals.size = nL) (hstack : g.stack = As.reverse ++ .ref b :: rest) (hW : 2 * g.monitorRoom + (rest.map fun v => v.category).sum ≤ 8) (hdg : decode cc g.pc = .ok (.invokevirtual index, 3)) (hf : cells + mc ≤ R.cells ∧ slots + ms ≤ R.slots) :
    vx_Run p l e R s m args below meth c H locs cells slots mc ms g rest (Qc (Value.ref b :: As).toArray) XC free := by
  obtain ⟨⟨hrc, hrs, hfr, hlo, hws, hcw⟩, hcode, hini, hy, hlen, hl, hin, hse⟩ := cw
  have hK : vx_Back l R p e below s args y 3 8 (PreOf R mc ms Pc) (PostOf Qc mc ms free) (vx_Post XC mc ms free) := vx_backW (hh := hh) (bytes := bytes) (maxL := maxL) (ret := ret) hM hp.1 hrc hrs hfr hlo hws hcw (fun a' U hW => word_at hW (Or.inl (by first | rfl | simp [Cond.onTables, Cond.keeps, Cond.steady])) hini)
  obtain ⟨hx, hb, hml, ho, -⟩ := S
  obtain ⟨-, ⟨cellB, hcB, hoB, hclB⟩, hPc⟩ := hp
  intro T hT X
  rcases vx_callVX X hx (C := C) (hh := hh) (bytes := bytes) (maxL := maxL) (ret := ret) ho hl hin hse hcode hy hK (by rw [hT]; exact hcB) hoB hclB hg (hsize.trans hml.symm) (argsL := As) (rest := rest) (fun sig h => hn.trans (hlen sig h)) hstack hW (by rw [hb]; exact hdg)
    (fun vm₁ hW₁ => ⟨hf.1, hf.2, hPc (T.setVm vm₁) hT hW₁⟩) with ⟨v, vm₁, ⟨U', l2, c2, s2⟩, hW₁, X', ⟨g', mk, t, L, e1, e2, hq, h1, hL, h2, h3⟩, st⟩ | ⟨q, vm₁, ⟨U', l2, c2, s2⟩, hW₁, X', ⟨g', mk, t, L, E, ce, e1, e2, hq, hce, hcv, hcl, h1, hL, h2, h3⟩, st⟩
  · dsimp only [Pt.U, Pt.locs, Pt.cells, Pt.slots] at X' e1 e2 h1 h2 h3 st
    subst h1; subst h2; subst h3
    exact Or.inl ⟨v, (T.setVm vm₁).calling g' mk (Value.ref b :: As).toArray, t, U', L, hT, X', hL, e1, e2, hq, st⟩
  · dsimp only [Pt.U, Pt.locs, Pt.cells, Pt.slots] at X' e1 e2 h1 h2 h3 st hcl
    subst h1; subst h2; subst h3
    exact Or.inr ⟨q, (T.setVm vm₁).calling g' mk (Value.ref b :: As).toArray, t, U', L, E, ce, hT, X', hL, e1, e2, hq, hce, hcv, vx_cls hW₁ hcl, st⟩
theorem vx_runSX {hh : List (Nat × Nat × Nat × Nat)} (S : CallFix p m c cc nL s args Ts own) (hM : vx_Met l y ws rm Pc Qc XC mc ms free) (cw : vx_CSW R s args own index y bytes maxL ret hh ws rm mc ms n) (hp : PreS s H Pc As)
    (hg : g.method = m) (hn : As.length = n) (hsize : g.locals.size = nL) (hstack : g.stack = As.reverse ++ rest) (hW : 2 * g.monitorRoom + (rest.map fun v => v.category).sum ≤ 8) (hdg : decode cc g.pc = .ok (.invokestatic index, 3)) (hf : cells + mc ≤ R.cells ∧ slots + ms ≤ R.slots) :
    vx_Run p l e R s m args below meth c H locs cells slots mc ms g rest (Qc As.toArray) XC free := by
  obtain ⟨⟨hrc, hrs, hfr, hlo, hws, hcw⟩, hcode, hini, hy, hlen, hl, hstt⟩ := cw
  have hK : vx_Back l R p e below s args y 3 8 (PreOf R mc ms Pc) (PostOf Qc mc ms free) (vx_Post XC mc ms free) := vx_backW (hh := hh) (bytes := bytes) (maxL := maxL) (ret := ret) hM hp.1 hrc hrs hfr hlo hws hcw (fun a' U hW => word_at hW (Or.inl (by first | rfl | simp [Cond.onTables, Cond.keeps, Cond.steady])) hini)
  obtain ⟨hx, hb, hml, ho, -⟩ := S
  intro T hT X
  rcases vx_callSX X hx (hh := hh) (bytes := bytes) (maxL := maxL) (ret := ret) ho hl hstt hini hcode hy hK hg (hsize.trans hml.symm) (argsL := As) (rest := rest) (fun sig h => hn.trans (hlen sig h)) hstack hW (by rw [hb]; exact hdg)
    (fun vm₁ hW₁ => ⟨hf.1, hf.2, hp.2 (T.setVm vm₁) hT hW₁⟩) with ⟨v, vm₁, ⟨U', l2, c2, s2⟩, hW₁, X', ⟨g', mk, t, L, e1, e2, hq, h1, hL, h2, h3⟩, st⟩ | ⟨q, vm₁, ⟨U', l2, c2, s2⟩, hW₁, X', ⟨g', mk, t, L, E, ce, e1, e2, hq, hce, hcv, hcl, h1, hL, h2, h3⟩, st⟩
  · dsimp only [Pt.U, Pt.locs, Pt.cells, Pt.slots] at X' e1 e2 h1 h2 h3 st
    subst h1; subst h2; subst h3
    exact Or.inl ⟨v, (T.setVm vm₁).calling g' mk As.toArray, t, U', L, hT, X', hL, e1, e2, hq, st⟩
  · dsimp only [Pt.U, Pt.locs, Pt.cells, Pt.slots] at X' e1 e2 h1 h2 h3 st hcl
    subst h1; subst h2; subst h3
    exact Or.inr ⟨q, (T.setVm vm₁).calling g' mk As.toArray, t, U', L, E, ce, hT, X', hL, e1, e2, hq, hce, hcv, vx_cls hW₁ hcl, st⟩
end
end VXH
theorem vx_ofWH {l : Launch} {y : MethodName} {ws ws' : List Cond} {rm : Room} {Pc : Array Value → State → Prop} {Qc : Array Value → State → Outcome → State → Prop} {XC : String → State → State → Prop} {mc ms : Nat} {free : Addr → Prop} {cc : ByteArray} {maxL : Nat} {ret : Option FieldType} {hh : List (Nat × Nat × Nat × Nat)}
    (hy : plainName y.cls = true) (hw : ws = Cond.codeWith y cc maxL ret hh :: ws')
    (body : ∀ p e s m args below meth c s₁, BodyLoose p l y (headSpec ws rm) cc maxL ret e s m args below meth c s₁ → c.maxLocals = maxL → Pc args s →
      W p l e (headSpec ws rm).room s m args below meth c s.heap [] 0 0 (vx_MQ below Qc XC args s mc ms free) (entryFrame m args maxL)) : vx_Met l y ws rm Pc Qc XC mc ms free := by
  refine MetFree.of_bodyS (code := cc) (maxLocals := maxL) (ret := ret) hy ?_ ?_
  · intro args s m h hn
    obtain ⟨m9, meth, c, hn9, h1, h2, h3, h4, -, h5, h6, -⟩ := Cond.codeWith_spec (atoms_spec (ws := ws) h _ (by rw [hw]; exact List.mem_cons_self))
    cases hn.symm.trans hn9
    exact ⟨meth, c, h1, h2, h3, h4, h5, h6⟩
  · intro p e s m args below meth c s₁ B hml hP _
    have hh0 : s₁.heap = s.heap := by rw [B.state]; rfl
    obtain ⟨t, a1, o, b1, b2, b3⟩ := body p e s m args below meth c s₁ B hml hP s₁ hh0 (Stand.of_body B)
    exact ⟨t, o, a1, b1, b2, b3⟩
/-! ===== END ===== -/

/-! ===== BEGIN what the machine throws by itself, no traces kept ===== -/
section VXM
set_option maxHeartbeats 1000000 in
/-- the machine throws cls with the message text, no traces kept: from its note over the frame g to 'throwing' over the same frame (follows the proofs of Stand.vmThrowsMessage, Shelf/KitTracedVmS.lean, and Stand.throwsMessageColdBareV, StandMessageColdV.lean, without the step out of the frame) -/
theorem vx_vmAt {p : Program} {l : Launch} {e : Env} {R : Room} {s : State} {m₀ : MethodId} {args : Array Value} {below : List Frame} {meth : Method} {c : Code} {W : State} {locs : List Loc} {cells slots : Nat}
    (X : Stand p l e R s m₀ args below meth c W locs cells slots) (hexec : p.tables.exec = Jvm.exec) (htr : e.platform.stackTraces = false) {cls : String} {names : List String} {text : String}
    (hcls : Bundle.fit cls = true) (hnames : ∀ n ∈ names, Bundle.fit n = true) (hsoe : (cls == "java/lang/StackOverflowError") = false) (hoom : (cls == "java/lang/OutOfMemoryError") = false)
    (h : ∀ a ∈ Bundle.messageArmAtoms cls names, a.before args s = true)
    (hlocs : ∀ x ∈ locs, ∀ cell, s.heap[x.base]? = some cell → cell.vm.isStatics = false)
    (htext : (text == notModelled) = false) (hlimit : ¬ (stringBytes (stringToUtf16 text)).size > e.platform.arrayLengthLimit) (hheap : ¬ (stringBytes (stringToUtf16 text)).size * componentBytes .byte > e.platform.maxHeapBytes)
    {g : JFrame} (hg : g.method = m₀) (hsize : g.locals.size = c.maxLocals)
    (hRframes : names.length + 4 < R.frames) (hRlocals : 2 * g.monitorRoom + (g.stack.map fun v => v.category).sum + 10240 ≤ R.locals) (hshort : 13 * names.length + 55 ≤ 10240)
    (hRcells : cells + 3 ≤ R.cells) (hRslots : slots + ((stringBytes (stringToUtf16 text)).size + 4 + 6) ≤ R.slots) (hlocks : meth.locks = false) :
    ∃ (S : State) (q : Addr) (ce : Cell), (∀ target, Steps p.tables e below ((S.setTop g).pushFrame (.throwing q)) target → Steps p.tables e below ((W.setTop g).pushFrame (.throwNew cls (some text) none)) target) ∧
      Stand p l e R s m₀ args below meth c S locs (cells + 3) (slots + ((stringBytes (stringToUtf16 text)).size + 4 + 6)) ∧ S.heap[q]? = some ce ∧ s.vm.findClass cls = some ce.cls ∧ ce.vm = .none := by
  have howns : e.platform.frameOwnsMonitors = true := by rw [X.admits.platform]
  have hfin : e.platform.finalization = false := by rw [X.admits.platform]
  have hpl : e.platform.magicAccessors = ({} : Platform).magicAccessors := by rw [X.admits.platform]
  have a : ∀ x, x ∈ Bundle.messageArmAtoms cls names → x.holds args s none s [] = true := fun x hx => h x hx
  obtain ⟨T, Z0, L, -, Y⟩ := ThrowableC.of_atoms (args := args) howns hfin hpl (fun x hx => h x (by simp [Bundle.messageArmAtoms, hx]))
  obtain ⟨Z, M, LZ, LM, hnZ⟩ := Init0T.ofS_atoms (args := args) hpl L Y (fun x hx => h x (by simp [Bundle.messageArmAtoms, hx]))
  obtain ⟨P1, Ps, hlen, L1, hL, hP1m, hlink1, hlink⟩ := Bundle.chainS (args := args) hpl hnZ names cls hcls hnames (fun x hx => h x (by simp [Bundle.messageArmAtoms, hx]))
  obtain ⟨Zs, LZs, hn4, hfitv, hfitc⟩ := StringT.of_atoms (args := args) (fun x hx => h x (by simp [Bundle.messageArmAtoms, hx]))
  have hfound : s.vm.findClass cls = some P1.m.cls := findClass_of_methodNamed hP1m
  obtain ⟨c1, kX, hc1, hk, hord, -, -, hn6⟩ := Cond.instantiable_spec (a (.instantiable cls 6) (by simp [Bundle.messageArmAtoms]))
  cases Option.some.inj (hc1.symm.trans hfound)
  have hinit := Cond.initialized_spec hfound hk (a (.initialized cls) (by simp [Bundle.messageArmAtoms]))
  have hctor : kX.findMethod "<init>" "(Ljava/lang/String;)V" = some P1.m.idx := findMethod_of_methodNamed hP1m hk
  have hsel0 : selectMethod e.platform s.vm P1.m.cls T.fill0 = .method T.fill0 := by
    obtain ⟨c2, r2, m2, q1, q2, q3, q4, -⟩ := Cond.selects_spec (a (.selects cls Bundle.tFill0 Bundle.tFill0) (by simp [Bundle.messageArmAtoms]))
    cases Option.some.inj (q1.symm.trans hfound)
    cases Option.some.inj (q2.symm.trans (State.methodFound?_of_named Y.fill0 (by decide)))
    cases Option.some.inj (q3.symm.trans Y.fill0)
    rw [Launch.admits_selectMethod X.admits]; exact q4
  have hselF : selectMethod e.platform s.vm P1.m.cls T.fill = .method T.fill := by
    obtain ⟨c2, r2, m2, q1, q2, q3, q4, -⟩ := Cond.selects_spec (a (.selects cls Bundle.tFill Bundle.tFill) (by simp [Bundle.messageArmAtoms]))
    cases Option.some.inj (q1.symm.trans hfound)
    cases Option.some.inj (q2.symm.trans (State.methodFound?_of_named Y.fill (by decide)))
    cases Option.some.inj (q3.symm.trans Y.fill)
    rw [Launch.admits_selectMethod X.admits]; exact q4
  obtain ⟨cellS0, hcS0, hiss⟩ := Y.statics
  obtain ⟨u0, hu0⟩ := Cond.staticRefV Y.unassigned L.unassignedStatic L.statics hcS0 hiss (a (.isRef (.static Bundle.tN "UNASSIGNED_STACK" Bundle.steD)) (by simp [Bundle.messageArmAtoms]))
  obtain ⟨sen, hsen⟩ := Cond.staticRefV Y.sentinel L.sentinelStatic L.statics hcS0 hiss (a (.isRef (.static Bundle.tN "SUPPRESSED_SENTINEL" Bundle.listD)) (by simp [Bundle.messageArmAtoms]))
  obtain ⟨ci198, i198, fB, hk198, hg198, ha198, hsB, -, hnB, htB, hffB⟩ := Cond.ownField (t := .object "java/lang/Object") Y.found L.cls (by decide +kernel) (a (.fieldLink Bundle.tN 198 Bundle.tN "backtrace" "Ljava/lang/Object;") (by simp [Bundle.messageArmAtoms])) (a (.lays Bundle.tN Bundle.tN "backtrace" "Ljava/lang/Object;") (by simp [Bundle.messageArmAtoms])) e.platform hpl
  obtain ⟨cellS, hcS', heS, -, hkeep⟩ := X.same.2.2.2.2.2 T.aS cellS0 hcS0
  have hcellS : W.heap[T.aS]? = some cellS := hcS'
  have hout' : ∀ i, (⟨T.aS, i⟩ : Loc) ∉ locs := fun i hmem => by
    have := hlocs _ hmem cellS0 hcS0
    rw [hiss] at this; cases this
  have hknownS : cellS.vm ≠ .unknown := by
    rw [heS]; intro hu
    rw [show cellS0.vm = .unknown from hu] at hiss
    cases hiss
  have hvU : cellS.slots[T.fUnassigned.slot]? = some u0.v := by rw [hkeep _ (hout' _)]; exact hu0
  have hvSen : cellS.slots[T.fSentinel.slot]? = some sen.v := by rw [hkeep _ (hout' _)]; exact hsen
  obtain ⟨iM, hffM⟩ := Y.msg
  obtain ⟨tyC, dC, hdC, hdnC⟩ := Cond.laysAt hfound hk Y.cause (a (.lays cls Bundle.tN "cause" "Ljava/lang/Throwable;") (by simp [Bundle.messageArmAtoms]))
  obtain ⟨tyS, dS, hdS, hdnS⟩ := Cond.laysAt hfound hk Y.stack (a (.lays cls Bundle.tN "stackTrace" Bundle.steD) (by simp [Bundle.messageArmAtoms]))
  obtain ⟨tyP, dP, hdP, hdnP⟩ := Cond.laysAt hfound hk Y.supp (a (.lays cls Bundle.tN "suppressedExceptions" Bundle.listD) (by simp [Bundle.messageArmAtoms]))
  obtain ⟨tyM, dM, hdM, hdnM⟩ := Cond.laysAt hfound hk hffM (a (.lays cls Bundle.tN "detailMessage" "Ljava/lang/String;") (by simp [Bundle.messageArmAtoms]))
  obtain ⟨tyB, dB, hdB, hdnB⟩ := Cond.laysAt hfound hk hffB (a (.lays cls Bundle.tN "backtrace" "Ljava/lang/Object;") (by simp [Bundle.messageArmAtoms]))
  have bC := Cond.laysApart hdB hdC hdnB hdnC (by rw [hnB, Y.causeName]; decide)
  have bS := Cond.laysApart hdB hdS hdnB hdnS (by rw [hnB, Y.stackName]; decide)
  have bP := Cond.laysApart hdB hdP hdnB hdnP (by rw [hnB, Y.suppName]; decide)
  have hbk : ((preparedCellV T.toThrowableT (freshCell P1.m.cls kX) (W.heap.size + 2) u0 sen).withEntry W.cur).slots[fB.slot]? = some .null := by
    have := fresh_default (c := P1.m.cls) tyB
    rw [htB] at this
    simpa [preparedCellV, Cell.setSlot, Cell.withEntry, Array.getElem?_setIfInBounds, bC, bS, bP, bC.symm, bS.symm, bP.symm, defaultValue] using this
  have tkC := Takes.of_laid (v := .ref (W.heap.size + 2)) hk hord tyC (by rw [Y.causeType]; rfl)
  have tkS := Takes.of_laid (v := u0.v) hk hord tyS (by rw [Y.stackType]; exact fits_refV_array _ u0)
  have tkP := Takes.of_laid (v := sen.v) hk hord tyP (by rw [Y.suppType]; exact fits_refV_object _ sen)
  have tkM := Takes.of_laid (v := .ref (W.heap.size + 1)) hk hord tyM (by rw [Y.msgType]; rfl)
  have hskip : SkipFacts T e.platform s (fun u => u) u0 ((preparedCellV T.toThrowableT (freshCell P1.m.cls kX) (W.heap.size + 2) u0 sen).withEntry W.cur) := ⟨{ ci198 := ci198, i198 := i198, fBack := fB }, ⟨hk198, hg198, ha198, hsB⟩, hbk, fun _ _ => rfl⟩
  have h0 : At W g.method c below := by rw [hg]; exact X.here
  obtain ⟨hbeyond, hfreeW⟩ := X.vmMayThrow hsize (.throwNew cls (some text) none) (fun f hf => by cases hf) rfl hRlocals
  have hfr' : W.frames.length + Ps.length + 4 < (e.platform.stackLimits W.me).1 := by have := X.framesAbove hRframes; omega
  have hwd' : (stackUse (.java g :: W.frames.tail)).2 + 13 * Ps.length + 55 ≤ (e.platform.stackLimits W.me).2 := by have := X.stackAbove hsize (K := 13 * Ps.length + 55) (by omega); omega
  have hslots : W.slotsUsed + (stringBytes (stringToUtf16 text)).size + Zs.kS.instanceTypes.size + kX.instanceTypes.size ≤ e.platform.maxSlots := by
    have := X.slotsAbove hRslots
    rw [hn4, hn6]
    omega
  obtain ⟨vm', hW', st⟩ := Steps.vmThrowsMessageColdByV p (s₀ := s) (S := W) (g := g) h0 hexec T L Z LZ M LM X.warmed (t := W.cur) rfl Zs LZs P1 L1 Ps hL hlink1 hlink hsoe hoom hfound hk hinit hord hctor
    (Launch.admits_hotImplicitExceptions X.admits) hbeyond hfreeW htext hlimit hheap (X.cellsAbove hRcells) hslots (hfitv _) (hfitc _)
    (Nn := fun u => u) heapOnly_id (fun _ _ => rfl) (fun _ => rfl) (fun u x y => setCell_twice _ _ _ _) (fun _ => Nat.le_refl _) (cN := ((preparedCellV T.toThrowableT (freshCell P1.m.cls kX) (W.heap.size + 2) u0 sen).withEntry W.cur))
    hsel0 hcellS hknownS hvU tkS (fun _ hu => hu) (fun _ hu => hu) rfl rfl rfl (by simp [preparedCellV, Cell.setSlot, Cell.withEntry]) hskip (fun _ _ hA hW _ hroom _ hrest => L.nativeOff p htr hA hW hroom hrest) hselF hvSen tkC tkP tkM Y.objLocals rfl hfr' hwd'
  rw [plainBareV_eq T.toThrowableT (W.heap.size + 2) u0 sen (.ref (W.heap.size + 1)) W.cur rfl rfl] at st
  obtain ⟨-, -, w3, w4, -, -, -⟩ := withThrown_facts e.platform W Zs text P1.m.cls kX
  have X3 := ((X.pushed (bytesOf Zs.cB (stringToUtf16 text))).pushed (stringAt Zs.cS Zs.kS Zs.fv Zs.fc (stringToUtf16 text) W.heap.size)).pushed (freshCell P1.m.cls kX)
  rw [← withString_eq] at X3
  have X4 := X3.noted hW'
  have ha : (W.heap.size + 2) < ((withThrown W Zs text P1.m.cls kX).setVm vm').heap.size := by show _ < (withThrown W Zs text P1.m.cls kX).heap.size; rw [w3]; omega
  have hcell : ((withThrown W Zs text P1.m.cls kX).setVm vm').heap[(W.heap.size + 2)]? = some (freshCell P1.m.cls kX) := w4
  have X5 := ((((X4.stored hcell T.fCause.slot (.ref (W.heap.size + 2))).storedAgain ha T.fStack.slot u0.v).storedAgain ha T.fSupp.slot sen.v).storedAgain ha T.fStack.slot u0.v).storedAgain ha T.fMsg.slot (.ref (W.heap.size + 1))
  obtain ⟨g₁, hfrM⟩ := X5.frames_eq
  have hU : ((((withThrown W Zs text P1.m.cls kX).setVm vm').setCell (W.heap.size + 2) (plainBareV T.toThrowableT (freshCell P1.m.cls kX) (W.heap.size + 2) u0 sen (.ref (W.heap.size + 1)))).setTop g).pushFrame (.throwing (W.heap.size + 2)) = (((withThrown W Zs text P1.m.cls kX).setVm vm').setCell (W.heap.size + 2) (plainBareV T.toThrowableT (freshCell P1.m.cls kX) (W.heap.size + 2) u0 sen (.ref (W.heap.size + 1)))).setFrames (.throwing (W.heap.size + 2) :: .java g :: below) := by
    rw [State.pushFrame, State.frames_setTop _ hfrM, State.setTop_of_frames _ hfrM, State.setFrames_setFrames]
  have b1 : (bytesOf Zs.cB (stringToUtf16 text)).slots.size = (stringBytes (stringToUtf16 text)).size := by
    rw [(Cell.writeAll_facts _ _).2.2]; simp [bytes0]
  have b2 : (stringAt Zs.cS Zs.kS Zs.fv Zs.fc (stringToUtf16 text) W.heap.size).slots.size = 4 := by simp [string0, Cell.setSlot, hn4]
  have b3 : (freshCell P1.m.cls kX).slots.size = 6 := by simp [hn6]
  rw [b1, b2, b3] at X5
  have e9 : slots + (stringBytes (stringToUtf16 text)).size + 4 + 6 = slots + ((stringBytes (stringToUtf16 text)).size + 4 + 6) := by omega
  rw [e9] at X5
  simp only [List.append_assoc, List.cons_append, List.nil_append] at X5
  refine ⟨((withThrown W Zs text P1.m.cls kX).setVm vm').setCell (W.heap.size + 2) (plainBareV T.toThrowableT (freshCell P1.m.cls kX) (W.heap.size + 2) u0 sen (.ref (W.heap.size + 1))), W.heap.size + 2, _, fun target ht => st _ (by rw [X.tail, ← hU]; exact ht),
    X5.forget (fun y hy => ?_), heapAt_setCell_self _ ha, hfound, rfl⟩
  simp only [List.mem_cons, List.not_mem_nil, or_false] at hy
  have hge : s.heap.size ≤ W.heap.size := X.same.2.1
  rcases hy with rfl | rfl | rfl | rfl | rfl <;> exact Nat.le_trans hge (Nat.le_add_right _ 2)
set_option maxHeartbeats 1000000 in
/-- the machine throws NullPointerException, no traces kept: from its note over the frame g to 'throwing' over the same frame (follows the proof of Stand.vmThrowsNpe, Shelf42/KT2.lean; throwsNpeColdBareVAt, Shelf42/NT91.lean, called) -/
theorem vx_npeAt {p : Program} {l : Launch} {e : Env} {R : Room} {s : State} {m₀ : MethodId} {args : Array Value} {below : List Frame} {meth : Method} {c : Code} {W : State} {locs : List Loc} {cells slots : Nat}
    (X : Stand p l e R s m₀ args below meth c W locs cells slots) (hexec : p.tables.exec = Jvm.exec) (htr : e.platform.stackTraces = false) {n : Nat}
    (h : ∀ a ∈ Bundle.npeArmAtoms n, a.before args s = true)
    (hlocs : ∀ x ∈ locs, ∀ cell, s.heap[x.base]? = some cell → cell.vm.isStatics = false)
    {g : JFrame} (hg : g.method = m₀) (hsize : g.locals.size = c.maxLocals)
    (hRframes : 7 < R.frames) (hRlocals : 2 * g.monitorRoom + (g.stack.map fun v => v.category).sum + 10240 ≤ R.locals)
    (hRcells : cells + 1 ≤ R.cells) (hRslots : slots + n ≤ R.slots) (hlocks : meth.locks = false) :
    ∃ (S : State) (q : Addr) (ce : Cell), (∀ target, Steps p.tables e below ((S.setTop g).pushFrame (.throwing q)) target → Steps p.tables e below ((W.setTop g).pushFrame (.throwNew "java/lang/NullPointerException" none none)) target) ∧
      Stand p l e R s m₀ args below meth c S locs (cells + 1) (slots + n) ∧ S.heap[q]? = some ce ∧ s.vm.findClass "java/lang/NullPointerException" = some ce.cls ∧ ce.vm = .none := by
  have howns : e.platform.frameOwnsMonitors = true := by rw [X.admits.platform]
  have hfin : e.platform.finalization = false := by rw [X.admits.platform]
  have hpl : e.platform.magicAccessors = ({} : Platform).magicAccessors := by rw [X.admits.platform]
  have hpl2 : e.platform.arrayCloneIsPublic = true := by rw [X.admits.platform]
  have a' : ∀ x, x ∈ Bundle.npeArmAtoms n → x.holds args s none s [] = true := fun x hx => h x hx
  obtain ⟨T, Z, L, LZ, Y⟩ := ThrowableC.of_atoms (args := args) howns hfin hpl (fun x hx => h x (by simp [Bundle.npeArmAtoms, hx]))
  obtain ⟨N, LN, hcN, hnNF, hordN, hffS⟩ := NpeC.of_atoms (args := args) hpl hpl2 L Y (fun x hx => h x (by simp [Bundle.npeArmAtoms, hx]))
  obtain ⟨P1, L1, hP1m, hP1s⟩ := PassC.of_atoms (args := args) (s := s) hpl (X := Bundle.nN) (Y := Bundle.rN) (by decide) (by decide) LibCode.NullPointerException.Init0.at_0 LibCode.NullPointerException.Init0.at_1 LibCode.NullPointerException.Init0.at_4 (fun x hx => h x (by simp [Bundle.npeArmAtoms, hx]))
  obtain ⟨PR, LR, hPRm, hPRs⟩ := PassC.of_atoms (args := args) (s := s) hpl (X := Bundle.rN) (Y := Bundle.eN) (by decide) (by decide) LibCode.RuntimeException.Init0.at_0 LibCode.RuntimeException.Init0.at_1 LibCode.RuntimeException.Init0.at_4 (fun x hx => h x (by simp [Bundle.npeArmAtoms, hx]))
  obtain ⟨PE, LEx, hPEm, hPEs⟩ := PassC.of_atoms (args := args) (s := s) hpl (X := Bundle.eN) (Y := Bundle.tN) (by decide) (by decide) LibCode.Exception.Init0.at_0 LibCode.Exception.Init0.at_1 LibCode.Exception.Init0.at_4 (fun x hx => h x (by simp [Bundle.npeArmAtoms, hx]))
  have hfound : s.vm.findClass Bundle.nN = some P1.m.cls := findClass_of_methodNamed hP1m
  have ecls : N.cN = P1.m.cls := Option.some.inj (hcN.symm.trans hfound)
  have hk : s.vm.classes[P1.m.cls]? = some N.kN := by rw [← ecls]; exact LN.cls
  have hinit := Cond.initialized_spec hfound hk (a' (.initialized Bundle.nN) (by simp [Bundle.npeArmAtoms]))
  have hctor : N.kN.findMethod "<init>" "()V" = some P1.m.idx := findMethod_of_methodNamed hP1m hk
  obtain ⟨c1, k1, hc1, hk1, -, -, -, hn⟩ := Cond.instantiable_spec (a' (.instantiable Bundle.nN n) (by simp [Bundle.npeArmAtoms]))
  cases Option.some.inj (hc1.symm.trans hfound)
  cases Option.some.inj (hk1.symm.trans hk)
  have hfsz : (freshCell P1.m.cls N.kN).slots.size = n := by simp [hn]
  have hlink1 : P1.sup = PR.m := Option.some.inj (hP1s.symm.trans hPRm)
  have hlinkR : PR.sup = PE.m := Option.some.inj (hPRs.symm.trans hPEm)
  have hlinkE : PE.sup = Z.m T.toThrowableT := Option.some.inj (hPEs.symm.trans Y.init0)
  have hLs : ∀ P, P ∈ [PR, PE] → P.Links0 e.platform s := fun P hP => by
    simp only [List.mem_cons, List.not_mem_nil, or_false] at hP
    rcases hP with rfl | rfl
    · exact LR
    · exact LEx
  have hsel0 : selectMethod e.platform s.vm P1.m.cls T.fill0 = .method T.fill0 := by
    obtain ⟨c2, r2, m2, q1, q2, q3, q4, -⟩ := Cond.selects_spec (a' (.selects Bundle.nN Bundle.tFill0 Bundle.tFill0) (by simp [Bundle.npeArmAtoms]))
    cases Option.some.inj (q1.symm.trans hfound)
    cases Option.some.inj (q2.symm.trans (State.methodFound?_of_named Y.fill0 (by decide)))
    cases Option.some.inj (q3.symm.trans Y.fill0)
    rw [Launch.admits_selectMethod X.admits]; exact q4
  have hselF : selectMethod e.platform s.vm P1.m.cls T.fill = .method N.fill := by
    obtain ⟨c2, r2, m2, q1, q2, q3, q4, -⟩ := Cond.selects_spec (a' (.selects Bundle.nN Bundle.tFill Bundle.nFill) (by simp [Bundle.npeArmAtoms]))
    cases Option.some.inj (q1.symm.trans hfound)
    cases Option.some.inj (q2.symm.trans (State.methodFound?_of_named Y.fill (by decide)))
    cases Option.some.inj (q3.symm.trans hnNF)
    rw [Launch.admits_selectMethod X.admits]; exact q4
  obtain ⟨cellS0, hcS0, hiss⟩ := Y.statics
  obtain ⟨u0, hu0⟩ := Cond.staticRefV Y.unassigned L.unassignedStatic L.statics hcS0 hiss (a' (.isRef (.static Bundle.tN "UNASSIGNED_STACK" Bundle.steD)) (by simp [Bundle.npeArmAtoms]))
  obtain ⟨sen, hsen⟩ := Cond.staticRefV Y.sentinel L.sentinelStatic L.statics hcS0 hiss (a' (.isRef (.static Bundle.tN "SUPPRESSED_SENTINEL" Bundle.listD)) (by simp [Bundle.npeArmAtoms]))
  obtain ⟨ci198, i198, fB, hk198, hg198, ha198, hsB, -, hnB, htB, hffB⟩ := Cond.ownField (t := .object "java/lang/Object") Y.found L.cls (by decide +kernel) (a' (.fieldLink Bundle.tN 198 Bundle.tN "backtrace" Bundle.objD) (by simp [Bundle.npeArmAtoms])) (a' (.lays Bundle.tN Bundle.tN "backtrace" Bundle.objD) (by simp [Bundle.npeArmAtoms])) e.platform hpl
  obtain ⟨cellS, hcS', heS, -, hkeep⟩ := X.same.2.2.2.2.2 T.aS cellS0 hcS0
  have hcellS : W.heap[T.aS]? = some cellS := hcS'
  have hout' : ∀ i, (⟨T.aS, i⟩ : Loc) ∉ locs := fun i hmem => by
    have := hlocs _ hmem cellS0 hcS0
    rw [hiss] at this; cases this
  have hknownS : cellS.vm ≠ .unknown := by
    rw [heS]; intro hu
    rw [show cellS0.vm = .unknown from hu] at hiss
    cases hiss
  have hvU : cellS.slots[T.fUnassigned.slot]? = some u0.v := by rw [hkeep _ (hout' _)]; exact hu0
  have hvSen : cellS.slots[T.fSentinel.slot]? = some sen.v := by rw [hkeep _ (hout' _)]; exact hsen
  obtain ⟨tyC, dC, hdC, hdnC⟩ := Cond.laysAt hfound hk Y.cause (a' (.lays Bundle.nN Bundle.tN "cause" "Ljava/lang/Throwable;") (by simp [Bundle.npeArmAtoms]))
  obtain ⟨tyS, dS, hdS, hdnS⟩ := Cond.laysAt hfound hk Y.stack (a' (.lays Bundle.nN Bundle.tN "stackTrace" Bundle.steD) (by simp [Bundle.npeArmAtoms]))
  obtain ⟨tyP, dP, hdP, hdnP⟩ := Cond.laysAt hfound hk Y.supp (a' (.lays Bundle.nN Bundle.tN "suppressedExceptions" Bundle.listD) (by simp [Bundle.npeArmAtoms]))
  obtain ⟨tyX, dX, hdX, hdnX⟩ := Cond.laysAt hfound hk hffS (a' (.lays Bundle.nN Bundle.nN "extendedMessageState" "I") (by simp [Bundle.npeArmAtoms, Bundle.npeAtoms]))
  obtain ⟨hnX, htX⟩ := State.fieldFound?_type hffS (t := .int) (by decide +kernel)
  have xC := Cond.laysApart hdC hdX hdnC hdnX (by rw [hnX, Y.causeName]; decide)
  have xS := Cond.laysApart hdS hdX hdnS hdnX (by rw [hnX, Y.stackName]; decide)
  have xP := Cond.laysApart hdP hdX hdnP hdnX (by rw [hnX, Y.suppName]; decide)
  have hv0 : (freshCell P1.m.cls N.kN).slots[N.fState.slot]? = some (.int 0) := by
    have := fresh_default (c := P1.m.cls) tyX
    rw [htX] at this; exact this
  obtain ⟨tyB, dB, hdB, hdnB⟩ := Cond.laysAt hfound hk hffB (a' (.lays Bundle.nN Bundle.tN "backtrace" Bundle.objD) (by simp [Bundle.npeArmAtoms]))
  have bC := Cond.laysApart hdB hdC hdnB hdnC (by rw [hnB, Y.causeName]; decide)
  have bS := Cond.laysApart hdB hdS hdnB hdnS (by rw [hnB, Y.stackName]; decide)
  have bP := Cond.laysApart hdB hdP hdnB hdnP (by rw [hnB, Y.suppName]; decide)
  have bX := Cond.laysApart hdB hdX hdnB hdnX (by rw [hnB, hnX]; decide)
  have hbk : ((npeCell N.toNpeT (preparedCellV T.toThrowableT (freshCell P1.m.cls N.kN) W.heap.size u0 sen) W.cur).withEntry W.cur).slots[fB.slot]? = some .null := by
    have := fresh_default (c := P1.m.cls) tyB
    rw [htB] at this
    simpa [npeCell, preparedCellV, Cell.setSlot, Cell.withEntry, Array.getElem?_setIfInBounds, bC, bS, bP, bX, bC.symm, bS.symm, bP.symm, bX.symm, defaultValue] using this
  have tkC := Takes.of_laid (v := .ref W.heap.size) hk hordN tyC (by rw [Y.causeType]; rfl)
  have tkS := Takes.of_laid (v := u0.v) hk hordN tyS (by rw [Y.stackType]; exact fits_refV_array _ u0)
  have tkP := Takes.of_laid (v := sen.v) hk hordN tyP (by rw [Y.suppType]; exact fits_refV_object _ sen)
  have tkX := Takes.of_laid (v := .int 1) hk hordN tyX (by rw [htX]; rfl)
  have hskip : SkipFacts T e.platform s (fun u => u) u0 ((npeCell N.toNpeT (preparedCellV T.toThrowableT (freshCell P1.m.cls N.kN) W.heap.size u0 sen) W.cur).withEntry W.cur) := ⟨{ ci198 := ci198, i198 := i198, fBack := fB }, ⟨hk198, hg198, ha198, hsB⟩, hbk, fun _ _ => rfl⟩
  obtain ⟨vm', X3, st, -⟩ := X.throwsNpeColdBareVAt hexec hg hsize T L Z LZ N LN P1 L1 [PR, PE] hLs hlink1 ⟨hlinkR, hlinkE, trivial⟩ hfound hk hinit hordN hctor hsel0 hselF hcellS hknownS hvU hvSen
    hv0 xC xS xP tkC tkS tkP tkX Y.objLocals hskip (fun _ _ hA hW _ hroom _ hrest => L.nativeOff p htr hA hW hroom hrest) (by simpa using hRframes) hRlocals (by simp) hRcells (by rw [hn]; exact hRslots)
  have hlt : W.heap.size < ((W.pushCell (freshCell P1.m.cls N.kN)).setVm vm').heap.size := by
    show W.heap.size < (W.pushCell (freshCell P1.m.cls N.kN)).heap.size
    rw [State.heap_size_pushCell]; omega
  rw [hfsz] at X3
  obtain ⟨g₁, hfrM⟩ := X3.frames_eq
  have hU : ((((W.pushCell (freshCell P1.m.cls N.kN)).setVm vm').setCell W.heap.size (npeBareV T.toThrowableT N.toNpeT (freshCell P1.m.cls N.kN) W.heap.size u0 sen)).setTop g).pushFrame (.throwing W.heap.size) = (((W.pushCell (freshCell P1.m.cls N.kN)).setVm vm').setCell W.heap.size (npeBareV T.toThrowableT N.toNpeT (freshCell P1.m.cls N.kN) W.heap.size u0 sen)).setFrames (.throwing W.heap.size :: .java g :: below) := by
    rw [State.pushFrame, State.frames_setTop _ hfrM, State.setTop_of_frames _ hfrM, State.setFrames_setFrames]
  refine ⟨_, W.heap.size, _, fun target ht => st.trans (by rw [← hU]; exact ht), X3.forget (fun y hy => ?_), heapAt_setCell_self _ hlt, hfound, rfl⟩
  simp only [List.mem_cons, List.not_mem_nil, or_false] at hy
  have hge : s.heap.size ≤ W.heap.size := X.same.2.1
  rcases hy with rfl | rfl | rfl | rfl | rfl <;> exact hge
/-- the words of a machine's NullPointerException, but the four that speak of the heap -/
def vx_atN (n : Nat) : List Cond := (Bundle.npeArmAtoms n).filter vx_no
/-- the words of a machine's throw with a message, but the four that speak of the heap -/
def vx_atM (X : String) (names : List String) : List Cond := (Bundle.messageArmAtoms X names).filter vx_no
section
variable {p : Program} {l : Launch} {e : Env} {R : Room} {s : State} {m : MethodId} {args : Array Value} {below : List Frame} {meth : Method} {c : Code} {H : Heap} {locs : List Loc} {cells slots : Nat}
/-- a frame seen from a rebased start, seen from the first start again -/
theorem vx_back9 {T S : State} {R' : Room} {k n : Nat} (X : Stand p l e R s m args below meth c T locs cells slots) (Y : Stand p l e R' ((T.setVm s.vm).setFrames (.invoking m args :: below)) m args below meth c T [] 0 0) (Z : Stand p l e R' ((T.setVm s.vm).setFrames (.invoking m args :: below)) m args below meth c S [] k n) :
    Stand p l e R s m args below meth c S locs (cells + k) (slots + n) := by
  have hW0 : s.WarmedH ((T.setVm s.vm).setFrames (.invoking m args :: below)).vm := State.WarmedH.refl s
  refine { admits := X.admits, cas := X.cas, clock := X.clock, frames := X.frames, room := X.room, hears := X.hears, method := X.method, code := X.code, here := Z.here, tail := Z.tail, warmed := State.WarmedH.trans hW0 Z.warmed, limits := Z.limits.trans (Y.limits.symm.trans X.limits), bytes := Z.bytes.trans (Y.bytes.symm.trans X.bytes), same := ?_ }
  obtain ⟨e1, e2⟩ := Z.same
  rw [State.setFrames_setFrames] at e1
  have h2 : (T.setVm s.vm).sameButNew (S.setVm s.vm) [] k n := ⟨e1, e2⟩
  have h3 := X.same.trans h2
  rw [List.append_nil] at h3
  exact h3
/-- from the machine's note that E is thrown here with this text -/
def vx_Note (p : Program) (l : Launch) (e : Env) (R : Room) (s : State) (m : MethodId) (args : Array Value) (below : List Frame) (meth : Method) (c : Code) (H : Heap) (locs : List Loc) (cells slots : Nat) (Q : State → Prop) (g : JFrame) (E text : String) : Prop :=
  ∀ T : State, T.heap = H → Stand p l e R s m args below meth c T locs cells slots → ∃ t, Steps p.tables e below ((T.setTop g).pushFrame (.throwNew E (some text) none)) t ∧ Q t
theorem vx_vm {pc : Nat} {ls : Array Slot} {rest : List Value} {Q : State → Prop} (hexec : p.tables.exec = Jvm.exec) (hl : l.stackTraces = false) {cls text : String} {names : List String} {nb : Nat} {A : Nat → Prop}
    (hcls : Bundle.fit cls = true) (hnames : ∀ n ∈ names, Bundle.fit n = true) (hsoe : (cls == "java/lang/StackOverflowError") = false) (hoom : (cls == "java/lang/OutOfMemoryError") = false)
    (hat : ∀ w ∈ vx_atM cls names, w.before args s = true) (hgood : ∀ w ∈ vx_atM cls names, vx_ot w = true)
    (hU : vx_Zq Bundle.tN "UNASSIGNED_STACK" Bundle.steD A s s.heap) (hN : vx_Zq Bundle.tN "SUPPRESSED_SENTINEL" Bundle.listD A s s.heap) (hS : va_S A s.heap H locs) (hsize : ls.size = c.maxLocals)
    (htext : (text == notModelled) = false) (hnb : (stringBytes (stringToUtf16 text)).size ≤ nb) (hnb1 : nb ≤ 1000)
    (hRframes : names.length + 4 < R.frames) (hRlocals : (rest.map fun v => v.category).sum + 10240 ≤ R.locals) (hshort : 13 * names.length + 55 ≤ 10240) (hRcells : cells + 3 ≤ R.cells) (hRslots : slots + (nb + 10) ≤ R.slots) (hlocks : meth.locks = false)
    (k : ∀ (H1 : Heap) (q9 : Addr) (ce : Cell), H.size ≤ H1.size → (∀ q : Nat, q < H.size → H1[q]? = H[q]?) → va_S A s.heap H1 locs → H1[q9]? = some ce → ce.vm = .none → s.vm.findClass cls = some ce.cls → vx_W p l e R s m args below meth c H1 locs (cells + 3) (slots + (nb + 10)) Q (F0 m pc ls rest) q9) :
    vx_Note p l e R s m args below meth c H locs cells slots Q (F0 m pc ls rest) cls text := by
  intro T hT X
  have htr : e.platform.stackTraces = false := (show e.platform.stackTraces = l.stackTraces by rw [X.admits.platform]).trans hl
  have Y := vx_rebase X (R' := { frames := R.frames, locals := R.locals, cells := 3, slots := nb + 10 }) (Nat.le_refl _) (Nat.le_refl _) hRcells hRslots
  have hhp : ((T.setVm s.vm).setFrames (.invoking m args :: below)).heap = H := hT
  have hW0 : s.WarmedH ((T.setVm s.vm).setFrames (.invoking m args :: below)).vm := State.WarmedH.refl s
  have hat' : ∀ w ∈ vx_atM cls names, w.before args ((T.setVm s.vm).setFrames (.invoking m args :: below)) = true := fun w hw => vx_ot_at hW0 rfl (hgood w hw) (hat w hw)
  have hU' : vx_Zq Bundle.tN "UNASSIGNED_STACK" Bundle.steD A ((T.setVm s.vm).setFrames (.invoking m args :: below)) ((T.setVm s.vm).setFrames (.invoking m args :: below)).heap := by rw [hhp]; exact vx_Zq.moved hW0.alike (hU.kept hS.2.1)
  have hN' : vx_Zq Bundle.tN "SUPPRESSED_SENTINEL" Bundle.listD A ((T.setVm s.vm).setFrames (.invoking m args :: below)) ((T.setVm s.vm).setFrames (.invoking m args :: below)).heap := by rw [hhp]; exact vx_Zq.moved hW0.alike (hN.kept hS.2.1)
  obtain ⟨S, q, ce, st, Z, hce, hcl', hv⟩ := vx_vmAt Y hexec htr (cls := cls) (names := names) (text := text) hcls hnames hsoe hoom (vx_own hat' (vx_isRefq hU'.1) (vx_isRefq hN'.1) hU'.2.word hN'.2.word) (fun x hx => nomatch hx) htext
    (by rw [Launch.admits_arrayLengthLimit X.admits]; omega) (by rw [Launch.admits_maxHeapBytes X.admits]; simp only [componentBytes]; omega)
    (g := F0 m pc ls rest) rfl hsize hRframes (by show 2 * 0 + (rest.map fun v => v.category).sum + 10240 ≤ R.locals; omega) hshort (by show 0 + 3 ≤ 3; omega) (by show 0 + (_ + 4 + 6) ≤ nb + 10; omega) hlocks
  obtain ⟨f1, f2⟩ := vx_frame Z.same
  have f1' : H.size ≤ S.heap.size := by rw [← hT]; exact f1
  have f2' : ∀ q : Nat, q < H.size → S.heap[q]? = H[q]? := fun q hq => by
    rw [← hT]
    exact f2 q (by rw [← hT] at hq; exact hq) (fun z hz => nomatch hz)
  have X5 := vx_back9 X Y Z
  have X6 : Stand p l e R s m args below meth c S locs (cells + 3) (slots + (nb + 10)) := { X5 with same := X5.same.mono (by omega) (by omega) }
  obtain ⟨t, a1, b1⟩ := k S.heap q ce f1' f2' ⟨Nat.le_trans hS.1 f1', fun q h1 h2 => (f2' q (Nat.lt_of_lt_of_le h1 hS.1)).trans (hS.2.1 q h1 h2), hS.2.2⟩ hce hv hcl' S rfl X6
  exact ⟨t, st t a1, b1⟩
/-- from the machine's note that NullPointerException is thrown here -/
def vx_NoteN (p : Program) (l : Launch) (e : Env) (R : Room) (s : State) (m : MethodId) (args : Array Value) (below : List Frame) (meth : Method) (c : Code) (H : Heap) (locs : List Loc) (cells slots : Nat) (Q : State → Prop) (g : JFrame) : Prop :=
  ∀ T : State, T.heap = H → Stand p l e R s m args below meth c T locs cells slots → ∃ t, Steps p.tables e below ((T.setTop g).pushFrame (.throwNew "java/lang/NullPointerException" none none)) t ∧ Q t
theorem vx_npe {pc : Nat} {ls : Array Slot} {rest : List Value} {Q : State → Prop} (hexec : p.tables.exec = Jvm.exec) (hl : l.stackTraces = false) {nb : Nat} {A : Nat → Prop}
    (hat : ∀ w ∈ vx_atN nb, w.before args s = true) (hgood : ∀ w ∈ vx_atN nb, vx_ot w = true)
    (hU : vx_Zq Bundle.tN "UNASSIGNED_STACK" Bundle.steD A s s.heap) (hN : vx_Zq Bundle.tN "SUPPRESSED_SENTINEL" Bundle.listD A s s.heap) (hS : va_S A s.heap H locs) (hsize : ls.size = c.maxLocals)
    (hRframes : 7 < R.frames) (hRlocals : (rest.map fun v => v.category).sum + 10240 ≤ R.locals) (hRcells : cells + 1 ≤ R.cells) (hRslots : slots + nb ≤ R.slots) (hlocks : meth.locks = false)
    (k : ∀ (H1 : Heap) (q9 : Addr) (ce : Cell), H.size ≤ H1.size → (∀ q : Nat, q < H.size → H1[q]? = H[q]?) → va_S A s.heap H1 locs → H1[q9]? = some ce → ce.vm = .none → s.vm.findClass "java/lang/NullPointerException" = some ce.cls → vx_W p l e R s m args below meth c H1 locs (cells + 1) (slots + nb) Q (F0 m pc ls rest) q9) :
    vx_NoteN p l e R s m args below meth c H locs cells slots Q (F0 m pc ls rest) := by
  intro T hT X
  have htr : e.platform.stackTraces = false := (show e.platform.stackTraces = l.stackTraces by rw [X.admits.platform]).trans hl
  have Y := vx_rebase X (R' := { frames := R.frames, locals := R.locals, cells := 1, slots := nb }) (Nat.le_refl _) (Nat.le_refl _) hRcells hRslots
  have hhp : ((T.setVm s.vm).setFrames (.invoking m args :: below)).heap = H := hT
  have hW0 : s.WarmedH ((T.setVm s.vm).setFrames (.invoking m args :: below)).vm := State.WarmedH.refl s
  have hat' : ∀ w ∈ vx_atN nb, w.before args ((T.setVm s.vm).setFrames (.invoking m args :: below)) = true := fun w hw => vx_ot_at hW0 rfl (hgood w hw) (hat w hw)
  have hU' : vx_Zq Bundle.tN "UNASSIGNED_STACK" Bundle.steD A ((T.setVm s.vm).setFrames (.invoking m args :: below)) ((T.setVm s.vm).setFrames (.invoking m args :: below)).heap := by rw [hhp]; exact vx_Zq.moved hW0.alike (hU.kept hS.2.1)
  have hN' : vx_Zq Bundle.tN "SUPPRESSED_SENTINEL" Bundle.listD A ((T.setVm s.vm).setFrames (.invoking m args :: below)) ((T.setVm s.vm).setFrames (.invoking m args :: below)).heap := by rw [hhp]; exact vx_Zq.moved hW0.alike (hN.kept hS.2.1)
  obtain ⟨S, q, ce, st, Z, hce, hcl', hv⟩ := vx_npeAt Y hexec htr (n := nb) (vx_own hat' (vx_isRefq hU'.1) (vx_isRefq hN'.1) hU'.2.word hN'.2.word) (fun x hx => nomatch hx)
    (g := F0 m pc ls rest) rfl hsize hRframes (by show 2 * 0 + (rest.map fun v => v.category).sum + 10240 ≤ R.locals; omega) (by show 0 + 1 ≤ 1; omega) (by show 0 + nb ≤ nb; omega) hlocks
  obtain ⟨f1, f2⟩ := vx_frame Z.same
  have f1' : H.size ≤ S.heap.size := by rw [← hT]; exact f1
  have f2' : ∀ q : Nat, q < H.size → S.heap[q]? = H[q]? := fun q hq => by
    rw [← hT]
    exact f2 q (by rw [← hT] at hq; exact hq) (fun z hz => nomatch hz)
  have X5 := vx_back9 X Y Z
  have X6 : Stand p l e R s m args below meth c S locs (cells + 1) (slots + nb) := { X5 with same := X5.same.mono (by omega) (by omega) }
  obtain ⟨t, a1, b1⟩ := k S.heap q ce f1' f2' ⟨Nat.le_trans hS.1 f1', fun q h1 h2 => (f2' q (Nat.lt_of_lt_of_le h1 hS.1)).trans (hS.2.1 q h1 h2), hS.2.2⟩ hce hv hcl' S rfl X6
  exact ⟨t, st t a1, b1⟩
variable {Q : State → Prop} {cc : ByteArray} {pc : Nat} {ls : Array Slot} {rest : List Value}
theorem vx_idivZ (hexec : p.tables.exec = Jvm.exec) (hb : c.code = cc) {a b : Int32} (h0 : b = 0) (d : decode cc pc = .ok (.idiv, 1)) (k : vx_Note p l e R s m args below meth c H locs cells slots Q (F0 m pc ls rest) "java/lang/ArithmeticException" "/ by zero") :
    W p l e R s m args below meth c H locs cells slots Q (F0 m pc ls (.int b :: .int a :: rest)) := by
  intro T hT X
  obtain ⟨t, st, q⟩ := k T hT X
  exact ⟨t, X.idivZero hexec (g := F0 m pc ls (.int b :: .int a :: rest)) rfl (a := a) (rest := rest) (by rw [h0]) (by rw [hb]; exact d) t st, q⟩
theorem vx_iremZ (hexec : p.tables.exec = Jvm.exec) (hb : c.code = cc) {a b : Int32} (h0 : b = 0) (d : decode cc pc = .ok (.irem, 1)) (k : vx_Note p l e R s m args below meth c H locs cells slots Q (F0 m pc ls rest) "java/lang/ArithmeticException" "/ by zero") :
    W p l e R s m args below meth c H locs cells slots Q (F0 m pc ls (.int b :: .int a :: rest)) := by
  intro T hT X
  obtain ⟨t, st, q⟩ := k T hT X
  exact ⟨t, X.iremZero hexec (g := F0 m pc ls (.int b :: .int a :: rest)) rfl (a := a) (rest := rest) (by rw [h0]) (by rw [hb]; exact d) t st, q⟩
theorem vx_ldivZ (hexec : p.tables.exec = Jvm.exec) (hb : c.code = cc) {a b : Int64} (h0 : b = 0) (d : decode cc pc = .ok (.ldiv, 1)) (k : vx_Note p l e R s m args below meth c H locs cells slots Q (F0 m pc ls rest) "java/lang/ArithmeticException" "/ by zero") :
    W p l e R s m args below meth c H locs cells slots Q (F0 m pc ls (.long b :: .long a :: rest)) := by
  intro T hT X
  obtain ⟨t, st, q⟩ := k T hT X
  exact ⟨t, X.ldivZero hexec (g := F0 m pc ls (.long b :: .long a :: rest)) rfl (a := a) (rest := rest) (by rw [h0]) (by rw [hb]; exact d) t st, q⟩
theorem vx_lremZ (hexec : p.tables.exec = Jvm.exec) (hb : c.code = cc) {a b : Int64} (h0 : b = 0) (d : decode cc pc = .ok (.lrem, 1)) (k : vx_Note p l e R s m args below meth c H locs cells slots Q (F0 m pc ls rest) "java/lang/ArithmeticException" "/ by zero") :
    W p l e R s m args below meth c H locs cells slots Q (F0 m pc ls (.long b :: .long a :: rest)) := by
  intro T hT X
  obtain ⟨t, st, q⟩ := k T hT X
  exact ⟨t, X.lremZero hexec (g := F0 m pc ls (.long b :: .long a :: rest)) rfl (a := a) (rest := rest) (by rw [h0]) (by rw [hb]; exact d) t st, q⟩
theorem vx_ialdZ {D : va_G} {cl : List vw_C} {ws : va_W} {tys : List (ClassId × FieldType)} {a : Nat} (hexec : p.tables.exec = Jvm.exec) (hb : c.code = cc) (hK : va_K D cl tys s) (hP : va_P D cl ws H) (q0 t0 : Nat) {cA : ClassId} {n : Nat} {f : Nat → Int32} (ha : ws[q0]? = some (a, .inl (cA, n, .inl f))) (ht : tys[t0]? = some (cA, .int)) {i : Int32} (hout : ¬ vp_in i n) (hdg : decode cc pc = .ok (.iaload, 1))
    (k : ∀ tx : String, tx = (toString "Index " ++ toString i ++ toString " out of bounds for length " ++ toString n : String) → vx_Note p l e R s m args below meth c H locs cells slots Q (F0 m pc ls rest) "java/lang/ArrayIndexOutOfBoundsException" tx) : W p l e R s m args below meth c H locs cells slots Q (F0 m pc ls (.int i :: .ref a :: rest)) := by
  intro T hT X
  obtain ⟨t, st, q⟩ := k _ rfl T hT X
  refine ⟨t, ?_, q⟩
  have h1 := X.ialoadOut hexec (by rw [hT]; exact hP q0 _ ha) ((hK.2 t0 _ ht).1 n (fun j => .int (f j))) (j := i) (by show (i < 0 ∨ (arrV _ _ _).slots.size ≤ _); rw [arrV_size]; exact Classical.byContradiction hout) (g := F0 m pc ls (.int i :: .ref a :: rest)) rfl (rest := rest) rfl (by rw [hb]; exact hdg) t
  simp only [arrV_size] at h1
  exact h1 st
theorem vx_iastZ {D : va_G} {cl : List vw_C} {ws : va_W} {tys : List (ClassId × FieldType)} {a : Nat} (hexec : p.tables.exec = Jvm.exec) (hb : c.code = cc) (hK : va_K D cl tys s) (hP : va_P D cl ws H) (q0 t0 : Nat) {cA : ClassId} {n : Nat} {f : Nat → Int32} (ha : ws[q0]? = some (a, .inl (cA, n, .inl f))) (ht : tys[t0]? = some (cA, .int)) {i : Int32} {x : Int32} (hout : ¬ vp_in i n) (hdg : decode cc pc = .ok (.iastore, 1))
    (k : ∀ tx : String, tx = (toString "Index " ++ toString i ++ toString " out of bounds for length " ++ toString n : String) → vx_Note p l e R s m args below meth c H locs cells slots Q (F0 m pc ls rest) "java/lang/ArrayIndexOutOfBoundsException" tx) : W p l e R s m args below meth c H locs cells slots Q (F0 m pc ls (.int x :: .int i :: .ref a :: rest)) := by
  intro T hT X
  obtain ⟨t, st, q⟩ := k _ rfl T hT X
  refine ⟨t, ?_, q⟩
  have h1 := X.iastoreOut hexec (by rw [hT]; exact hP q0 _ ha) ((hK.2 t0 _ ht).1 n (fun j => .int (f j))) (j := i) (by show (i < 0 ∨ (arrV _ _ _).slots.size ≤ _); rw [arrV_size]; exact Classical.byContradiction hout) (g := F0 m pc ls (.int x :: .int i :: .ref a :: rest)) rfl (rest := rest) rfl (by rw [hb]; exact hdg) t
  simp only [arrV_size] at h1
  exact h1 st
theorem vx_baldZ {D : va_G} {cl : List vw_C} {ws : va_W} {tys : List (ClassId × FieldType)} {a : Nat} (hexec : p.tables.exec = Jvm.exec) (hb : c.code = cc) (hK : va_K D cl tys s) (hP : va_P D cl ws H) (q0 t0 : Nat) {cA : ClassId} {n : Nat} {f : Nat → Int32} (ha : ws[q0]? = some (a, .inl (cA, n, .inl f))) (ht : tys[t0]? = some (cA, .byte)) {i : Int32} (hout : ¬ vp_in i n) (hdg : decode cc pc = .ok (.baload, 1))
    (k : ∀ tx : String, tx = (toString "Index " ++ toString i ++ toString " out of bounds for length " ++ toString n : String) → vx_Note p l e R s m args below meth c H locs cells slots Q (F0 m pc ls rest) "java/lang/ArrayIndexOutOfBoundsException" tx) : W p l e R s m args below meth c H locs cells slots Q (F0 m pc ls (.int i :: .ref a :: rest)) := by
  intro T hT X
  obtain ⟨t, st, q⟩ := k _ rfl T hT X
  refine ⟨t, ?_, q⟩
  have h1 := X.baloadOut hexec (by rw [hT]; exact hP q0 _ ha) ((hK.2 t0 _ ht).1 n (fun j => .int (f j))) (j := i) (by show (i < 0 ∨ (arrV _ _ _).slots.size ≤ _); rw [arrV_size]; exact Classical.byContradiction hout) (g := F0 m pc ls (.int i :: .ref a :: rest)) rfl (rest := rest) rfl (by rw [hb]; exact hdg) t
  simp only [arrV_size] at h1
  exact h1 st
theorem vx_bastZ {D : va_G} {cl : List vw_C} {ws : va_W} {tys : List (ClassId × FieldType)} {a : Nat} (hexec : p.tables.exec = Jvm.exec) (hb : c.code = cc) (hK : va_K D cl tys s) (hP : va_P D cl ws H) (q0 t0 : Nat) {cA : ClassId} {n : Nat} {f : Nat → Int32} (ha : ws[q0]? = some (a, .inl (cA, n, .inl f))) (ht : tys[t0]? = some (cA, .byte)) {i : Int32} {x : Int32} (hout : ¬ vp_in i n) (hdg : decode cc pc = .ok (.bastore, 1))
    (k : ∀ tx : String, tx = (toString "Index " ++ toString i ++ toString " out of bounds for length " ++ toString n : String) → vx_Note p l e R s m args below meth c H locs cells slots Q (F0 m pc ls rest) "java/lang/ArrayIndexOutOfBoundsException" tx) : W p l e R s m args below meth c H locs cells slots Q (F0 m pc ls (.int x :: .int i :: .ref a :: rest)) := by
  intro T hT X
  obtain ⟨t, st, q⟩ := k _ rfl T hT X
  refine ⟨t, ?_, q⟩
  have h1 := X.bastoreOut hexec (by rw [hT]; exact hP q0 _ ha) ((hK.2 t0 _ ht).1 n (fun j => .int (f j))) (j := i) (by show (i < 0 ∨ (arrV _ _ _).slots.size ≤ _); rw [arrV_size]; exact Classical.byContradiction hout) (g := F0 m pc ls (.int x :: .int i :: .ref a :: rest)) rfl (rest := rest) rfl (by rw [hb]; exact hdg) t
  simp only [arrV_size] at h1
  exact h1 st
theorem vx_zaldZ {D : va_G} {cl : List vw_C} {ws : va_W} {tys : List (ClassId × FieldType)} {a : Nat} (hexec : p.tables.exec = Jvm.exec) (hb : c.code = cc) (hK : va_K D cl tys s) (hP : va_P D cl ws H) (q0 t0 : Nat) {cA : ClassId} {n : Nat} {f : Nat → Int32} (ha : ws[q0]? = some (a, .inl (cA, n, .inl f))) (ht : tys[t0]? = some (cA, .boolean)) {i : Int32} (hout : ¬ vp_in i n) (hdg : decode cc pc = .ok (.baload, 1))
    (k : ∀ tx : String, tx = (toString "Index " ++ toString i ++ toString " out of bounds for length " ++ toString n : String) → vx_Note p l e R s m args below meth c H locs cells slots Q (F0 m pc ls rest) "java/lang/ArrayIndexOutOfBoundsException" tx) : W p l e R s m args below meth c H locs cells slots Q (F0 m pc ls (.int i :: .ref a :: rest)) := by
  intro T hT X
  obtain ⟨t, st, q⟩ := k _ rfl T hT X
  refine ⟨t, ?_, q⟩
  have h1 := X.baloadOut hexec (by rw [hT]; exact hP q0 _ ha) ((hK.2 t0 _ ht).1 n (fun j => .int (f j))) (j := i) (by show (i < 0 ∨ (arrV _ _ _).slots.size ≤ _); rw [arrV_size]; exact Classical.byContradiction hout) (g := F0 m pc ls (.int i :: .ref a :: rest)) rfl (rest := rest) rfl (by rw [hb]; exact hdg) t
  simp only [arrV_size] at h1
  exact h1 st
theorem vx_zastZ {D : va_G} {cl : List vw_C} {ws : va_W} {tys : List (ClassId × FieldType)} {a : Nat} (hexec : p.tables.exec = Jvm.exec) (hb : c.code = cc) (hK : va_K D cl tys s) (hP : va_P D cl ws H) (q0 t0 : Nat) {cA : ClassId} {n : Nat} {f : Nat → Int32} (ha : ws[q0]? = some (a, .inl (cA, n, .inl f))) (ht : tys[t0]? = some (cA, .boolean)) {i : Int32} {x : Int32} (hout : ¬ vp_in i n) (hdg : decode cc pc = .ok (.bastore, 1))
    (k : ∀ tx : String, tx = (toString "Index " ++ toString i ++ toString " out of bounds for length " ++ toString n : String) → vx_Note p l e R s m args below meth c H locs cells slots Q (F0 m pc ls rest) "java/lang/ArrayIndexOutOfBoundsException" tx) : W p l e R s m args below meth c H locs cells slots Q (F0 m pc ls (.int x :: .int i :: .ref a :: rest)) := by
  intro T hT X
  obtain ⟨t, st, q⟩ := k _ rfl T hT X
  refine ⟨t, ?_, q⟩
  have h1 := X.bastoreOut hexec (by rw [hT]; exact hP q0 _ ha) ((hK.2 t0 _ ht).1 n (fun j => .int (f j))) (j := i) (by show (i < 0 ∨ (arrV _ _ _).slots.size ≤ _); rw [arrV_size]; exact Classical.byContradiction hout) (g := F0 m pc ls (.int x :: .int i :: .ref a :: rest)) rfl (rest := rest) rfl (by rw [hb]; exact hdg) t
  simp only [arrV_size] at h1
  exact h1 st
theorem vx_caldZ {D : va_G} {cl : List vw_C} {ws : va_W} {tys : List (ClassId × FieldType)} {a : Nat} (hexec : p.tables.exec = Jvm.exec) (hb : c.code = cc) (hK : va_K D cl tys s) (hP : va_P D cl ws H) (q0 t0 : Nat) {cA : ClassId} {n : Nat} {f : Nat → Int32} (ha : ws[q0]? = some (a, .inl (cA, n, .inl f))) (ht : tys[t0]? = some (cA, .char)) {i : Int32} (hout : ¬ vp_in i n) (hdg : decode cc pc = .ok (.caload, 1))
    (k : ∀ tx : String, tx = (toString "Index " ++ toString i ++ toString " out of bounds for length " ++ toString n : String) → vx_Note p l e R s m args below meth c H locs cells slots Q (F0 m pc ls rest) "java/lang/ArrayIndexOutOfBoundsException" tx) : W p l e R s m args below meth c H locs cells slots Q (F0 m pc ls (.int i :: .ref a :: rest)) := by
  intro T hT X
  obtain ⟨t, st, q⟩ := k _ rfl T hT X
  refine ⟨t, ?_, q⟩
  have h1 := X.caloadOut hexec (by rw [hT]; exact hP q0 _ ha) ((hK.2 t0 _ ht).1 n (fun j => .int (f j))) (j := i) (by show (i < 0 ∨ (arrV _ _ _).slots.size ≤ _); rw [arrV_size]; exact Classical.byContradiction hout) (g := F0 m pc ls (.int i :: .ref a :: rest)) rfl (rest := rest) rfl (by rw [hb]; exact hdg) t
  simp only [arrV_size] at h1
  exact h1 st
theorem vx_castZ {D : va_G} {cl : List vw_C} {ws : va_W} {tys : List (ClassId × FieldType)} {a : Nat} (hexec : p.tables.exec = Jvm.exec) (hb : c.code = cc) (hK : va_K D cl tys s) (hP : va_P D cl ws H) (q0 t0 : Nat) {cA : ClassId} {n : Nat} {f : Nat → Int32} (ha : ws[q0]? = some (a, .inl (cA, n, .inl f))) (ht : tys[t0]? = some (cA, .char)) {i : Int32} {x : Int32} (hout : ¬ vp_in i n) (hdg : decode cc pc = .ok (.castore, 1))
    (k : ∀ tx : String, tx = (toString "Index " ++ toString i ++ toString " out of bounds for length " ++ toString n : String) → vx_Note p l e R s m args below meth c H locs cells slots Q (F0 m pc ls rest) "java/lang/ArrayIndexOutOfBoundsException" tx) : W p l e R s m args below meth c H locs cells slots Q (F0 m pc ls (.int x :: .int i :: .ref a :: rest)) := by
  intro T hT X
  obtain ⟨t, st, q⟩ := k _ rfl T hT X
  refine ⟨t, ?_, q⟩
  have h1 := X.castoreOut hexec (by rw [hT]; exact hP q0 _ ha) ((hK.2 t0 _ ht).1 n (fun j => .int (f j))) (j := i) (by show (i < 0 ∨ (arrV _ _ _).slots.size ≤ _); rw [arrV_size]; exact Classical.byContradiction hout) (g := F0 m pc ls (.int x :: .int i :: .ref a :: rest)) rfl (rest := rest) rfl (by rw [hb]; exact hdg) t
  simp only [arrV_size] at h1
  exact h1 st
theorem vx_saldZ {D : va_G} {cl : List vw_C} {ws : va_W} {tys : List (ClassId × FieldType)} {a : Nat} (hexec : p.tables.exec = Jvm.exec) (hb : c.code = cc) (hK : va_K D cl tys s) (hP : va_P D cl ws H) (q0 t0 : Nat) {cA : ClassId} {n : Nat} {f : Nat → Int32} (ha : ws[q0]? = some (a, .inl (cA, n, .inl f))) (ht : tys[t0]? = some (cA, .short)) {i : Int32} (hout : ¬ vp_in i n) (hdg : decode cc pc = .ok (.saload, 1))
    (k : ∀ tx : String, tx = (toString "Index " ++ toString i ++ toString " out of bounds for length " ++ toString n : String) → vx_Note p l e R s m args below meth c H locs cells slots Q (F0 m pc ls rest) "java/lang/ArrayIndexOutOfBoundsException" tx) : W p l e R s m args below meth c H locs cells slots Q (F0 m pc ls (.int i :: .ref a :: rest)) := by
  intro T hT X
  obtain ⟨t, st, q⟩ := k _ rfl T hT X
  refine ⟨t, ?_, q⟩
  have h1 := X.saloadOut hexec (by rw [hT]; exact hP q0 _ ha) ((hK.2 t0 _ ht).1 n (fun j => .int (f j))) (j := i) (by show (i < 0 ∨ (arrV _ _ _).slots.size ≤ _); rw [arrV_size]; exact Classical.byContradiction hout) (g := F0 m pc ls (.int i :: .ref a :: rest)) rfl (rest := rest) rfl (by rw [hb]; exact hdg) t
  simp only [arrV_size] at h1
  exact h1 st
theorem vx_sastZ {D : va_G} {cl : List vw_C} {ws : va_W} {tys : List (ClassId × FieldType)} {a : Nat} (hexec : p.tables.exec = Jvm.exec) (hb : c.code = cc) (hK : va_K D cl tys s) (hP : va_P D cl ws H) (q0 t0 : Nat) {cA : ClassId} {n : Nat} {f : Nat → Int32} (ha : ws[q0]? = some (a, .inl (cA, n, .inl f))) (ht : tys[t0]? = some (cA, .short)) {i : Int32} {x : Int32} (hout : ¬ vp_in i n) (hdg : decode cc pc = .ok (.sastore, 1))
    (k : ∀ tx : String, tx = (toString "Index " ++ toString i ++ toString " out of bounds for length " ++ toString n : String) → vx_Note p l e R s m args below meth c H locs cells slots Q (F0 m pc ls rest) "java/lang/ArrayIndexOutOfBoundsException" tx) : W p l e R s m args below meth c H locs cells slots Q (F0 m pc ls (.int x :: .int i :: .ref a :: rest)) := by
  intro T hT X
  obtain ⟨t, st, q⟩ := k _ rfl T hT X
  refine ⟨t, ?_, q⟩
  have h1 := X.sastoreOut hexec (by rw [hT]; exact hP q0 _ ha) ((hK.2 t0 _ ht).1 n (fun j => .int (f j))) (j := i) (by show (i < 0 ∨ (arrV _ _ _).slots.size ≤ _); rw [arrV_size]; exact Classical.byContradiction hout) (g := F0 m pc ls (.int x :: .int i :: .ref a :: rest)) rfl (rest := rest) rfl (by rw [hb]; exact hdg) t
  simp only [arrV_size] at h1
  exact h1 st
theorem vx_laldZ {D : va_G} {cl : List vw_C} {ws : va_W} {tys : List (ClassId × FieldType)} {a : Nat} (hexec : p.tables.exec = Jvm.exec) (hb : c.code = cc) (hK : va_K D cl tys s) (hP : va_P D cl ws H) (q0 t0 : Nat) {cA : ClassId} {n : Nat} {f : Nat → Int64} (ha : ws[q0]? = some (a, .inl (cA, n, .inr (.inl f)))) (ht : tys[t0]? = some (cA, .long)) {i : Int32} (hout : ¬ vp_in i n) (hdg : decode cc pc = .ok (.laload, 1))
    (k : ∀ tx : String, tx = (toString "Index " ++ toString i ++ toString " out of bounds for length " ++ toString n : String) → vx_Note p l e R s m args below meth c H locs cells slots Q (F0 m pc ls rest) "java/lang/ArrayIndexOutOfBoundsException" tx) : W p l e R s m args below meth c H locs cells slots Q (F0 m pc ls (.int i :: .ref a :: rest)) := by
  intro T hT X
  obtain ⟨t, st, q⟩ := k _ rfl T hT X
  refine ⟨t, ?_, q⟩
  have h1 := X.laloadOut hexec (by rw [hT]; exact hP q0 _ ha) ((hK.2 t0 _ ht).1 n (fun j => .long (f j))) (j := i) (by show (i < 0 ∨ (arrV _ _ _).slots.size ≤ _); rw [arrV_size]; exact Classical.byContradiction hout) (g := F0 m pc ls (.int i :: .ref a :: rest)) rfl (rest := rest) rfl (by rw [hb]; exact hdg) t
  simp only [arrV_size] at h1
  exact h1 st
theorem vx_lastZ {D : va_G} {cl : List vw_C} {ws : va_W} {tys : List (ClassId × FieldType)} {a : Nat} (hexec : p.tables.exec = Jvm.exec) (hb : c.code = cc) (hK : va_K D cl tys s) (hP : va_P D cl ws H) (q0 t0 : Nat) {cA : ClassId} {n : Nat} {f : Nat → Int64} (ha : ws[q0]? = some (a, .inl (cA, n, .inr (.inl f)))) (ht : tys[t0]? = some (cA, .long)) {i : Int32} {x : Int64} (hout : ¬ vp_in i n) (hdg : decode cc pc = .ok (.lastore, 1))
    (k : ∀ tx : String, tx = (toString "Index " ++ toString i ++ toString " out of bounds for length " ++ toString n : String) → vx_Note p l e R s m args below meth c H locs cells slots Q (F0 m pc ls rest) "java/lang/ArrayIndexOutOfBoundsException" tx) : W p l e R s m args below meth c H locs cells slots Q (F0 m pc ls (.long x :: .int i :: .ref a :: rest)) := by
  intro T hT X
  obtain ⟨t, st, q⟩ := k _ rfl T hT X
  refine ⟨t, ?_, q⟩
  have h1 := X.lastoreOut hexec (by rw [hT]; exact hP q0 _ ha) ((hK.2 t0 _ ht).1 n (fun j => .long (f j))) (j := i) (by show (i < 0 ∨ (arrV _ _ _).slots.size ≤ _); rw [arrV_size]; exact Classical.byContradiction hout) (g := F0 m pc ls (.long x :: .int i :: .ref a :: rest)) rfl (rest := rest) rfl (by rw [hb]; exact hdg) t
  simp only [arrV_size] at h1
  exact h1 st
theorem vx_faldZ {D : va_G} {cl : List vw_C} {ws : va_W} {tys : List (ClassId × FieldType)} {a : Nat} (hexec : p.tables.exec = Jvm.exec) (hb : c.code = cc) (hK : va_K D cl tys s) (hP : va_P D cl ws H) (q0 t0 : Nat) {cA : ClassId} {n : Nat} {f : Nat → UInt32} (ha : ws[q0]? = some (a, .inl (cA, n, .inr (.inr (.inl f))))) (ht : tys[t0]? = some (cA, .float)) {i : Int32} (hout : ¬ vp_in i n) (hdg : decode cc pc = .ok (.faload, 1))
    (k : ∀ tx : String, tx = (toString "Index " ++ toString i ++ toString " out of bounds for length " ++ toString n : String) → vx_Note p l e R s m args below meth c H locs cells slots Q (F0 m pc ls rest) "java/lang/ArrayIndexOutOfBoundsException" tx) : W p l e R s m args below meth c H locs cells slots Q (F0 m pc ls (.int i :: .ref a :: rest)) := by
  intro T hT X
  obtain ⟨t, st, q⟩ := k _ rfl T hT X
  refine ⟨t, ?_, q⟩
  have h1 := X.faloadOut hexec (by rw [hT]; exact hP q0 _ ha) ((hK.2 t0 _ ht).1 n (fun j => .float (f j))) (j := i) (by show (i < 0 ∨ (arrV _ _ _).slots.size ≤ _); rw [arrV_size]; exact Classical.byContradiction hout) (g := F0 m pc ls (.int i :: .ref a :: rest)) rfl (rest := rest) rfl (by rw [hb]; exact hdg) t
  simp only [arrV_size] at h1
  exact h1 st
theorem vx_fastZ {D : va_G} {cl : List vw_C} {ws : va_W} {tys : List (ClassId × FieldType)} {a : Nat} (hexec : p.tables.exec = Jvm.exec) (hb : c.code = cc) (hK : va_K D cl tys s) (hP : va_P D cl ws H) (q0 t0 : Nat) {cA : ClassId} {n : Nat} {f : Nat → UInt32} (ha : ws[q0]? = some (a, .inl (cA, n, .inr (.inr (.inl f))))) (ht : tys[t0]? = some (cA, .float)) {i : Int32} {x : UInt32} (hout : ¬ vp_in i n) (hdg : decode cc pc = .ok (.fastore, 1))
    (k : ∀ tx : String, tx = (toString "Index " ++ toString i ++ toString " out of bounds for length " ++ toString n : String) → vx_Note p l e R s m args below meth c H locs cells slots Q (F0 m pc ls rest) "java/lang/ArrayIndexOutOfBoundsException" tx) : W p l e R s m args below meth c H locs cells slots Q (F0 m pc ls (.float x :: .int i :: .ref a :: rest)) := by
  intro T hT X
  obtain ⟨t, st, q⟩ := k _ rfl T hT X
  refine ⟨t, ?_, q⟩
  have h1 := X.fastoreOut hexec (by rw [hT]; exact hP q0 _ ha) ((hK.2 t0 _ ht).1 n (fun j => .float (f j))) (j := i) (by show (i < 0 ∨ (arrV _ _ _).slots.size ≤ _); rw [arrV_size]; exact Classical.byContradiction hout) (g := F0 m pc ls (.float x :: .int i :: .ref a :: rest)) rfl (rest := rest) rfl (by rw [hb]; exact hdg) t
  simp only [arrV_size] at h1
  exact h1 st
theorem vx_daldZ {D : va_G} {cl : List vw_C} {ws : va_W} {tys : List (ClassId × FieldType)} {a : Nat} (hexec : p.tables.exec = Jvm.exec) (hb : c.code = cc) (hK : va_K D cl tys s) (hP : va_P D cl ws H) (q0 t0 : Nat) {cA : ClassId} {n : Nat} {f : Nat → UInt64} (ha : ws[q0]? = some (a, .inl (cA, n, .inr (.inr (.inr (.inl f)))))) (ht : tys[t0]? = some (cA, .double)) {i : Int32} (hout : ¬ vp_in i n) (hdg : decode cc pc = .ok (.daload, 1))
    (k : ∀ tx : String, tx = (toString "Index " ++ toString i ++ toString " out of bounds for length " ++ toString n : String) → vx_Note p l e R s m args below meth c H locs cells slots Q (F0 m pc ls rest) "java/lang/ArrayIndexOutOfBoundsException" tx) : W p l e R s m args below meth c H locs cells slots Q (F0 m pc ls (.int i :: .ref a :: rest)) := by
  intro T hT X
  obtain ⟨t, st, q⟩ := k _ rfl T hT X
  refine ⟨t, ?_, q⟩
  have h1 := X.daloadOut hexec (by rw [hT]; exact hP q0 _ ha) ((hK.2 t0 _ ht).1 n (fun j => .double (f j))) (j := i) (by show (i < 0 ∨ (arrV _ _ _).slots.size ≤ _); rw [arrV_size]; exact Classical.byContradiction hout) (g := F0 m pc ls (.int i :: .ref a :: rest)) rfl (rest := rest) rfl (by rw [hb]; exact hdg) t
  simp only [arrV_size] at h1
  exact h1 st
theorem vx_dastZ {D : va_G} {cl : List vw_C} {ws : va_W} {tys : List (ClassId × FieldType)} {a : Nat} (hexec : p.tables.exec = Jvm.exec) (hb : c.code = cc) (hK : va_K D cl tys s) (hP : va_P D cl ws H) (q0 t0 : Nat) {cA : ClassId} {n : Nat} {f : Nat → UInt64} (ha : ws[q0]? = some (a, .inl (cA, n, .inr (.inr (.inr (.inl f)))))) (ht : tys[t0]? = some (cA, .double)) {i : Int32} {x : UInt64} (hout : ¬ vp_in i n) (hdg : decode cc pc = .ok (.dastore, 1))
    (k : ∀ tx : String, tx = (toString "Index " ++ toString i ++ toString " out of bounds for length " ++ toString n : String) → vx_Note p l e R s m args below meth c H locs cells slots Q (F0 m pc ls rest) "java/lang/ArrayIndexOutOfBoundsException" tx) : W p l e R s m args below meth c H locs cells slots Q (F0 m pc ls (.double x :: .int i :: .ref a :: rest)) := by
  intro T hT X
  obtain ⟨t, st, q⟩ := k _ rfl T hT X
  refine ⟨t, ?_, q⟩
  have h1 := X.dastoreOut hexec (by rw [hT]; exact hP q0 _ ha) ((hK.2 t0 _ ht).1 n (fun j => .double (f j))) (j := i) (by show (i < 0 ∨ (arrV _ _ _).slots.size ≤ _); rw [arrV_size]; exact Classical.byContradiction hout) (g := F0 m pc ls (.double x :: .int i :: .ref a :: rest)) rfl (rest := rest) rfl (by rw [hb]; exact hdg) t
  simp only [arrV_size] at h1
  exact h1 st
theorem vx_arraylengthN (hexec : p.tables.exec = Jvm.exec) (hb : c.code = cc) (hdg : decode cc pc = .ok (.arraylength, 1)) (k : vx_NoteN p l e R s m args below meth c H locs cells slots Q (F0 m pc ls rest)) : W p l e R s m args below meth c H locs cells slots Q (F0 m pc ls (.null :: rest)) := by
  intro T hT X
  obtain ⟨t, st, q⟩ := k T hT X
  exact ⟨t, X.arraylengthNull hexec (g := F0 m pc ls (.null :: rest)) rfl (rest := rest) rfl (by rw [hb]; exact hdg) t st, q⟩
theorem vx_ialoadN (hexec : p.tables.exec = Jvm.exec) (hb : c.code = cc) {i : Int32} (hdg : decode cc pc = .ok (.iaload, 1)) (k : vx_NoteN p l e R s m args below meth c H locs cells slots Q (F0 m pc ls rest)) : W p l e R s m args below meth c H locs cells slots Q (F0 m pc ls (.int i :: .null :: rest)) := by
  intro T hT X
  obtain ⟨t, st, q⟩ := k T hT X
  exact ⟨t, X.ialoadNull hexec (g := F0 m pc ls (.int i :: .null :: rest)) rfl (rest := rest) rfl (by rw [hb]; exact hdg) t st, q⟩
theorem vx_laloadN (hexec : p.tables.exec = Jvm.exec) (hb : c.code = cc) {i : Int32} (hdg : decode cc pc = .ok (.laload, 1)) (k : vx_NoteN p l e R s m args below meth c H locs cells slots Q (F0 m pc ls rest)) : W p l e R s m args below meth c H locs cells slots Q (F0 m pc ls (.int i :: .null :: rest)) := by
  intro T hT X
  obtain ⟨t, st, q⟩ := k T hT X
  exact ⟨t, X.laloadNull hexec (g := F0 m pc ls (.int i :: .null :: rest)) rfl (rest := rest) rfl (by rw [hb]; exact hdg) t st, q⟩
theorem vx_faloadN (hexec : p.tables.exec = Jvm.exec) (hb : c.code = cc) {i : Int32} (hdg : decode cc pc = .ok (.faload, 1)) (k : vx_NoteN p l e R s m args below meth c H locs cells slots Q (F0 m pc ls rest)) : W p l e R s m args below meth c H locs cells slots Q (F0 m pc ls (.int i :: .null :: rest)) := by
  intro T hT X
  obtain ⟨t, st, q⟩ := k T hT X
  exact ⟨t, X.faloadNull hexec (g := F0 m pc ls (.int i :: .null :: rest)) rfl (rest := rest) rfl (by rw [hb]; exact hdg) t st, q⟩
theorem vx_daloadN (hexec : p.tables.exec = Jvm.exec) (hb : c.code = cc) {i : Int32} (hdg : decode cc pc = .ok (.daload, 1)) (k : vx_NoteN p l e R s m args below meth c H locs cells slots Q (F0 m pc ls rest)) : W p l e R s m args below meth c H locs cells slots Q (F0 m pc ls (.int i :: .null :: rest)) := by
  intro T hT X
  obtain ⟨t, st, q⟩ := k T hT X
  exact ⟨t, X.daloadNull hexec (g := F0 m pc ls (.int i :: .null :: rest)) rfl (rest := rest) rfl (by rw [hb]; exact hdg) t st, q⟩
theorem vx_aaloadN (hexec : p.tables.exec = Jvm.exec) (hb : c.code = cc) {i : Int32} (hdg : decode cc pc = .ok (.aaload, 1)) (k : vx_NoteN p l e R s m args below meth c H locs cells slots Q (F0 m pc ls rest)) : W p l e R s m args below meth c H locs cells slots Q (F0 m pc ls (.int i :: .null :: rest)) := by
  intro T hT X
  obtain ⟨t, st, q⟩ := k T hT X
  exact ⟨t, X.aaloadNull hexec (g := F0 m pc ls (.int i :: .null :: rest)) rfl (rest := rest) rfl (by rw [hb]; exact hdg) t st, q⟩
theorem vx_baloadN (hexec : p.tables.exec = Jvm.exec) (hb : c.code = cc) {i : Int32} (hdg : decode cc pc = .ok (.baload, 1)) (k : vx_NoteN p l e R s m args below meth c H locs cells slots Q (F0 m pc ls rest)) : W p l e R s m args below meth c H locs cells slots Q (F0 m pc ls (.int i :: .null :: rest)) := by
  intro T hT X
  obtain ⟨t, st, q⟩ := k T hT X
  exact ⟨t, X.baloadNull hexec (g := F0 m pc ls (.int i :: .null :: rest)) rfl (rest := rest) rfl (by rw [hb]; exact hdg) t st, q⟩
theorem vx_caloadN (hexec : p.tables.exec = Jvm.exec) (hb : c.code = cc) {i : Int32} (hdg : decode cc pc = .ok (.caload, 1)) (k : vx_NoteN p l e R s m args below meth c H locs cells slots Q (F0 m pc ls rest)) : W p l e R s m args below meth c H locs cells slots Q (F0 m pc ls (.int i :: .null :: rest)) := by
  intro T hT X
  obtain ⟨t, st, q⟩ := k T hT X
  exact ⟨t, X.caloadNull hexec (g := F0 m pc ls (.int i :: .null :: rest)) rfl (rest := rest) rfl (by rw [hb]; exact hdg) t st, q⟩
theorem vx_saloadN (hexec : p.tables.exec = Jvm.exec) (hb : c.code = cc) {i : Int32} (hdg : decode cc pc = .ok (.saload, 1)) (k : vx_NoteN p l e R s m args below meth c H locs cells slots Q (F0 m pc ls rest)) : W p l e R s m args below meth c H locs cells slots Q (F0 m pc ls (.int i :: .null :: rest)) := by
  intro T hT X
  obtain ⟨t, st, q⟩ := k T hT X
  exact ⟨t, X.saloadNull hexec (g := F0 m pc ls (.int i :: .null :: rest)) rfl (rest := rest) rfl (by rw [hb]; exact hdg) t st, q⟩
theorem vx_iastoreN (hexec : p.tables.exec = Jvm.exec) (hb : c.code = cc) {x : Int32} {i : Int32} (hdg : decode cc pc = .ok (.iastore, 1)) (k : vx_NoteN p l e R s m args below meth c H locs cells slots Q (F0 m pc ls rest)) : W p l e R s m args below meth c H locs cells slots Q (F0 m pc ls (.int x :: .int i :: .null :: rest)) := by
  intro T hT X
  obtain ⟨t, st, q⟩ := k T hT X
  exact ⟨t, X.iastoreNull hexec (g := F0 m pc ls (.int x :: .int i :: .null :: rest)) rfl (rest := rest) rfl (by rw [hb]; exact hdg) t st, q⟩
theorem vx_lastoreN (hexec : p.tables.exec = Jvm.exec) (hb : c.code = cc) {x : Int64} {i : Int32} (hdg : decode cc pc = .ok (.lastore, 1)) (k : vx_NoteN p l e R s m args below meth c H locs cells slots Q (F0 m pc ls rest)) : W p l e R s m args below meth c H locs cells slots Q (F0 m pc ls (.long x :: .int i :: .null :: rest)) := by
  intro T hT X
  obtain ⟨t, st, q⟩ := k T hT X
  exact ⟨t, X.lastoreNull hexec (g := F0 m pc ls (.long x :: .int i :: .null :: rest)) rfl (rest := rest) rfl (by rw [hb]; exact hdg) t st, q⟩
theorem vx_fastoreN (hexec : p.tables.exec = Jvm.exec) (hb : c.code = cc) {x : UInt32} {i : Int32} (hdg : decode cc pc = .ok (.fastore, 1)) (k : vx_NoteN p l e R s m args below meth c H locs cells slots Q (F0 m pc ls rest)) : W p l e R s m args below meth c H locs cells slots Q (F0 m pc ls (.float x :: .int i :: .null :: rest)) := by
  intro T hT X
  obtain ⟨t, st, q⟩ := k T hT X
  exact ⟨t, X.fastoreNull hexec (g := F0 m pc ls (.float x :: .int i :: .null :: rest)) rfl (rest := rest) rfl (by rw [hb]; exact hdg) t st, q⟩
theorem vx_dastoreN (hexec : p.tables.exec = Jvm.exec) (hb : c.code = cc) {x : UInt64} {i : Int32} (hdg : decode cc pc = .ok (.dastore, 1)) (k : vx_NoteN p l e R s m args below meth c H locs cells slots Q (F0 m pc ls rest)) : W p l e R s m args below meth c H locs cells slots Q (F0 m pc ls (.double x :: .int i :: .null :: rest)) := by
  intro T hT X
  obtain ⟨t, st, q⟩ := k T hT X
  exact ⟨t, X.dastoreNull hexec (g := F0 m pc ls (.double x :: .int i :: .null :: rest)) rfl (rest := rest) rfl (by rw [hb]; exact hdg) t st, q⟩
theorem vx_bastoreN (hexec : p.tables.exec = Jvm.exec) (hb : c.code = cc) {x : Int32} {i : Int32} (hdg : decode cc pc = .ok (.bastore, 1)) (k : vx_NoteN p l e R s m args below meth c H locs cells slots Q (F0 m pc ls rest)) : W p l e R s m args below meth c H locs cells slots Q (F0 m pc ls (.int x :: .int i :: .null :: rest)) := by
  intro T hT X
  obtain ⟨t, st, q⟩ := k T hT X
  exact ⟨t, X.bastoreNull hexec (g := F0 m pc ls (.int x :: .int i :: .null :: rest)) rfl (rest := rest) rfl (by rw [hb]; exact hdg) t st, q⟩
theorem vx_castoreN (hexec : p.tables.exec = Jvm.exec) (hb : c.code = cc) {x : Int32} {i : Int32} (hdg : decode cc pc = .ok (.castore, 1)) (k : vx_NoteN p l e R s m args below meth c H locs cells slots Q (F0 m pc ls rest)) : W p l e R s m args below meth c H locs cells slots Q (F0 m pc ls (.int x :: .int i :: .null :: rest)) := by
  intro T hT X
  obtain ⟨t, st, q⟩ := k T hT X
  exact ⟨t, X.castoreNull hexec (g := F0 m pc ls (.int x :: .int i :: .null :: rest)) rfl (rest := rest) rfl (by rw [hb]; exact hdg) t st, q⟩
theorem vx_sastoreN (hexec : p.tables.exec = Jvm.exec) (hb : c.code = cc) {x : Int32} {i : Int32} (hdg : decode cc pc = .ok (.sastore, 1)) (k : vx_NoteN p l e R s m args below meth c H locs cells slots Q (F0 m pc ls rest)) : W p l e R s m args below meth c H locs cells slots Q (F0 m pc ls (.int x :: .int i :: .null :: rest)) := by
  intro T hT X
  obtain ⟨t, st, q⟩ := k T hT X
  exact ⟨t, X.sastoreNull hexec (g := F0 m pc ls (.int x :: .int i :: .null :: rest)) rfl (rest := rest) rfl (by rw [hb]; exact hdg) t st, q⟩
theorem vx_invokeN {own C : String} {index maxL : Nat} {y : MethodName} {bytes : ByteArray} {ret : Option FieldType} (hexec : p.tables.exec = Jvm.exec) (hb : c.code = cc) (hown : s.vm.findClass own = some m.cls) (hlink : (Cond.methodLink own index y).before args s = true) (hinst : (Cond.instanceMethod y).before args s = true) (hcode : (Cond.code y bytes maxL ret).before args s = true) (hsel : (Cond.selects C y y).before args s = true)
    (hx : y.cls ≠ "java/lang/invoke/MethodHandle" ∧ y.cls ≠ "java/lang/invoke/VarHandle") {As : List Value} (hlen : (parseMethodDescriptor y.desc).map (fun d => d.parameters.length) = some As.length) (hdg : decode cc pc = .ok (.invokevirtual index, 3))
    (k : vx_NoteN p l e R s m args below meth c H locs cells slots Q (F0 m pc ls rest)) {st0 : List Value} (hst : st0 = As.reverse ++ .null :: rest) : W p l e R s m args below meth c H locs cells slots Q (F0 m pc ls st0) := by
  intro T hT X
  obtain ⟨r0, r, hn, hrm, hstR, hsigR⟩ := va_Decl.of hinst hcode
  obtain ⟨c2, r2, m2, q1, q2, q3, q4, kP, hkP, hkPi⟩ := Cond.selects_spec hsel
  cases hn.symm.trans q3
  have hl9 : As.length = r.sig.parameters.length := by
    rw [hsigR] at hlen
    exact (Option.some.inj hlen).symm
  obtain ⟨vm', X1, st1⟩ := X.invokevirtualNull hexec hown hlink hn hrm hstR hkP hkPi hx (g := F0 m pc ls st0) rfl (argsL := As) (rest := rest) hl9 hst (by rw [hb]; exact hdg)
  obtain ⟨t, st, q⟩ := k (T.setVm vm') hT X1
  exact ⟨t, st1 t st, q⟩
theorem vx_newarrayZ {atype : ArrayType} (hexec : p.tables.exec = Jvm.exec) (hb : c.code = cc) {n : Int32} (h0 : n < 0) (hdg : decode cc pc = .ok (.newarray atype, 2)) (k : ∀ tx : String, tx = toString n → vx_Note p l e R s m args below meth c H locs cells slots Q (F0 m pc ls rest) "java/lang/NegativeArraySizeException" tx) : W p l e R s m args below meth c H locs cells slots Q (F0 m pc ls (.int n :: rest)) := by
  intro T hT X
  obtain ⟨t, st, q⟩ := k _ rfl T hT X
  exact ⟨t, X.newarrayNegative hexec (g := F0 m pc ls (.int n :: rest)) rfl h0 (rest := rest) rfl (by rw [hb]; exact hdg) t st, q⟩
end
end VXM
/-! ===== END ===== -/
end
section
/-! ===== BEGIN printed: names, fields, word lists, decode rows ===== -/
def RX0 : String := "TowerFields$Divisor"
def TX0 : u_T := fun k => match k with
  | 0 => ("TowerFields$Divisor", "found", "LTowerFields$Poly;", true)
  | 1 => ("TowerFields$Divisor", "firstRest", "LTowerFields$Poly;", true)
  | 2 => ("TowerFields$Divisor", "secondRest", "LTowerFields$Poly;", true)
  | 3 => ("TowerFields$Divisor", "pieced", "LTowerFields$Poly;", true)
  | 4 => ("TowerFields$Divisor", "remains", "LTowerFields$Poly;", true)
  | 5 => ("TowerFields$Divisor", "content", "LTowerFields$Line;", true)
  | 6 => ("TowerFields$Divisor", "firstContent", "LTowerFields$Line;", true)
  | 7 => ("TowerFields$Divisor", "secondContent", "LTowerFields$Line;", true)
  | 8 => ("TowerFields$Divisor", "piecedContent", "LTowerFields$Line;", true)
  | 9 => ("TowerFields$Divisor", "lead", "LTowerFields$Line;", true)
  | 10 => ("TowerFields$Divisor", "nodes", "LTowerFields$Line;", true)
  | 11 => ("TowerFields$Divisor", "image", "LTowerFields$Line;", true)
  | 12 => ("TowerFields$Divisor", "spare", "LTowerFields$Line;", true)
  | 13 => ("TowerFields$Divisor", "quotient", "LTowerFields$Line;", true)
  | _ => ("TowerFields$Divisor", "otherLine", "LTowerFields$Line;", true)
def tyX0 : Nat → FieldType := fun k => match k with
  | 0 => .object "TowerFields$Poly"
  | 1 => .object "TowerFields$Poly"
  | 2 => .object "TowerFields$Poly"
  | 3 => .object "TowerFields$Poly"
  | 4 => .object "TowerFields$Poly"
  | 5 => .object "TowerFields$Line"
  | 6 => .object "TowerFields$Line"
  | 7 => .object "TowerFields$Line"
  | 8 => .object "TowerFields$Line"
  | 9 => .object "TowerFields$Line"
  | 10 => .object "TowerFields$Line"
  | 11 => .object "TowerFields$Line"
  | 12 => .object "TowerFields$Line"
  | 13 => .object "TowerFields$Line"
  | _ => .object "TowerFields$Line"
abbrev wsX00 : List Cond := u_ws RX0 TX0 15
theorem nmX0 : ∀ a, a < 15 → ∀ b, b < 15 → a ≠ b → (TX0 a).2.1 ≠ (TX0 b).2.1 := by decide +kernel
theorem tyX0_ok : ∀ k, k < 15 → parseFieldDescriptor (TX0 k).2.2.1 = some (tyX0 k) := by decide +kernel
abbrev cX0_init : ByteArray := prog_2_method_1_code
def yX0_init : MethodName := ⟨RX0, "<init>", "()V"⟩
abbrev cX0_find : ByteArray := prog_2_method_2_code
def yX0_find : MethodName := ⟨RX0, "find", "(LTowerFields$Poly;LTowerFields$Poly;)V"⟩
abbrev cX0_findContents : ByteArray := prog_2_method_3_code
def yX0_findContents : MethodName := ⟨RX0, "findContents", "(LTowerFields$Poly;LTowerFields$Poly;)V"⟩
abbrev cX0_contentOf : ByteArray := prog_2_method_4_code
def yX0_contentOf : MethodName := ⟨RX0, "contentOf", "(LTowerFields$Poly;LTowerFields$Line;)V"⟩
abbrev cX0_leadOf : ByteArray := prog_2_method_5_code
def yX0_leadOf : MethodName := ⟨RX0, "leadOf", "(LTowerFields$Poly;LTowerFields$Line;LTowerFields$Line;)V"⟩
abbrev cX0_findImage : ByteArray := prog_2_method_6_code
def yX0_findImage : MethodName := ⟨RX0, "findImage", "(LTowerFields$Poly;LTowerFields$Poly;I)Z"⟩
abbrev cX0_imageOf : ByteArray := prog_2_method_7_code
def yX0_imageOf : MethodName := ⟨RX0, "imageOf", "(LTowerFields$Poly;ILTowerFields$Line;)V"⟩
abbrev cX0_takeIn : ByteArray := prog_2_method_8_code
def yX0_takeIn : MethodName := ⟨RX0, "takeIn", "(I)Z"⟩
abbrev cX0_tryPieced : ByteArray := prog_2_method_9_code
def yX0_tryPieced : MethodName := ⟨RX0, "tryPieced", "(LTowerFields$Poly;LTowerFields$Poly;)Z"⟩
abbrev cX0_divideBoth : ByteArray := prog_2_method_10_code
def yX0_divideBoth : MethodName := ⟨RX0, "divideBoth", "(LTowerFields$Poly;LTowerFields$Poly;)Z"⟩
abbrev cX0_divide : ByteArray := prog_2_method_11_code
def yX0_divide : MethodName := ⟨RX0, "divide", "(LTowerFields$Poly;LTowerFields$Poly;)Z"⟩
def RX1 : String := "TowerFields$Line"
def TX1 : u_T := fun k => match k with
  | 0 => ("TowerFields$Line", "numbers", "[I", false)
  | _ => ("TowerFields$Line", "degree", "I", false)
def tyX1 : Nat → FieldType := fun k => match k with
  | 0 => .array .int
  | _ => .int
abbrev wsX10 : List Cond := u_ws RX1 TX1 2
theorem nmX1 : ∀ a, a < 2 → ∀ b, b < 2 → a ≠ b → (TX1 a).2.1 ≠ (TX1 b).2.1 := by decide +kernel
theorem tyX1_ok : ∀ k, k < 2 → parseFieldDescriptor (TX1 k).2.2.1 = some (tyX1 k) := by decide +kernel
abbrev cX1_init : ByteArray := prog_3_method_1_code
def yX1_init : MethodName := ⟨RX1, "<init>", "()V"⟩
abbrev cX1_get : ByteArray := prog_3_method_2_code
def yX1_get : MethodName := ⟨RX1, "get", "(I)I"⟩
abbrev cX1_put : ByteArray := prog_3_method_3_code
def yX1_put : MethodName := ⟨RX1, "put", "(II)V"⟩
abbrev cX1_clear : ByteArray := prog_3_method_4_code
def yX1_clear : MethodName := ⟨RX1, "clear", "()V"⟩
abbrev cX1_copyOf : ByteArray := prog_3_method_5_code
def yX1_copyOf : MethodName := ⟨RX1, "copyOf", "(LTowerFields$Line;)V"⟩
abbrev cX1_valueAt : ByteArray := prog_3_method_6_code
def yX1_valueAt : MethodName := ⟨RX1, "valueAt", "(I)I"⟩
abbrev cX1_scale : ByteArray := prog_3_method_7_code
def yX1_scale : MethodName := ⟨RX1, "scale", "(I)V"⟩
abbrev cX1_plusShifted : ByteArray := prog_3_method_8_code
def yX1_plusShifted : MethodName := ⟨RX1, "plusShifted", "(LTowerFields$Line;II)V"⟩
abbrev cX1_plusProduct : ByteArray := prog_3_method_9_code
def yX1_plusProduct : MethodName := ⟨RX1, "plusProduct", "(LTowerFields$Line;LTowerFields$Line;I)V"⟩
abbrev cX1_plusSlopeProduct : ByteArray := prog_3_method_10_code
def yX1_plusSlopeProduct : MethodName := ⟨RX1, "plusSlopeProduct", "(LTowerFields$Line;LTowerFields$Line;)V"⟩
abbrev cX1_timesRoot : ByteArray := prog_3_method_11_code
def yX1_timesRoot : MethodName := ⟨RX1, "timesRoot", "(I)V"⟩
abbrev cX1_divideBy : ByteArray := prog_3_method_12_code
def yX1_divideBy : MethodName := ⟨RX1, "divideBy", "(LTowerFields$Line;LTowerFields$Line;)V"⟩
abbrev cX1_meet : ByteArray := prog_3_method_13_code
def yX1_meet : MethodName := ⟨RX1, "meet", "(LTowerFields$Line;LTowerFields$Line;)V"⟩
abbrev cX1_exchange : ByteArray := prog_3_method_14_code
def yX1_exchange : MethodName := ⟨RX1, "exchange", "(LTowerFields$Line;)V"⟩
def RX2 : String := "TowerFields$Poly"
def TX2 : u_T := fun k => match k with
  | _ => ("TowerFields$Poly", "rows", "[LTowerFields$Line;", true)
def tyX2 : Nat → FieldType := fun k => match k with
  | _ => .array (.object "TowerFields$Line")
abbrev wsX20 : List Cond := u_ws RX2 TX2 1
theorem nmX2 : ∀ a, a < 1 → ∀ b, b < 1 → a ≠ b → (TX2 a).2.1 ≠ (TX2 b).2.1 := by decide +kernel
theorem tyX2_ok : ∀ k, k < 1 → parseFieldDescriptor (TX2 k).2.2.1 = some (tyX2 k) := by decide +kernel
abbrev cX2_init : ByteArray := prog_4_method_1_code
def yX2_init : MethodName := ⟨RX2, "<init>", "()V"⟩
abbrev cX2_row : ByteArray := prog_4_method_2_code
def yX2_row : MethodName := ⟨RX2, "row", "(I)LTowerFields$Line;"⟩
abbrev cX2_clear : ByteArray := prog_4_method_3_code
def yX2_clear : MethodName := ⟨RX2, "clear", "()V"⟩
abbrev cX2_copyOf : ByteArray := prog_4_method_4_code
def yX2_copyOf : MethodName := ⟨RX2, "copyOf", "(LTowerFields$Poly;)V"⟩
abbrev cX2_isZero : ByteArray := prog_4_method_5_code
def yX2_isZero : MethodName := ⟨RX2, "isZero", "()Z"⟩
abbrev cX2_powerT : ByteArray := prog_4_method_6_code
def yX2_powerT : MethodName := ⟨RX2, "powerT", "()I"⟩
abbrev cX2_powerX : ByteArray := prog_4_method_7_code
def yX2_powerX : MethodName := ⟨RX2, "powerX", "()I"⟩
abbrev cX2_head : ByteArray := prog_4_method_8_code
def yX2_head : MethodName := ⟨RX2, "head", "()I"⟩
abbrev cX2_scale : ByteArray := prog_4_method_9_code
def yX2_scale : MethodName := ⟨RX2, "scale", "(I)V"⟩
abbrev cX2_plusProduct : ByteArray := prog_4_method_10_code
def yX2_plusProduct : MethodName := ⟨RX2, "plusProduct", "(LTowerFields$Poly;LTowerFields$Poly;I)V"⟩
def RX3 : String := "TowerFields"
def TX3 : u_T := fun k => match k with
  | 0 => ("TowerFields", "numbers", "[I", true)
  | 1 => ("TowerFields", "made", "I", false)
  | 2 => ("TowerFields", "letterKind", "I", false)
  | 3 => ("TowerFields", "slopeAbove", "LTowerFields$Line;", true)
  | 4 => ("TowerFields", "slopeBelow", "LTowerFields$Line;", true)
  | 5 => ("TowerFields", "firstAbove", "LTowerFields$Poly;", true)
  | 6 => ("TowerFields", "firstBelow", "LTowerFields$Poly;", true)
  | 7 => ("TowerFields", "secondAbove", "LTowerFields$Poly;", true)
  | 8 => ("TowerFields", "secondBelow", "LTowerFields$Poly;", true)
  | 9 => ("TowerFields", "slopeFirst", "LTowerFields$Poly;", true)
  | 10 => ("TowerFields", "slopeSecond", "LTowerFields$Poly;", true)
  | 11 => ("TowerFields", "rawAbove", "LTowerFields$Poly;", true)
  | 12 => ("TowerFields", "rawBelow", "LTowerFields$Poly;", true)
  | 13 => ("TowerFields", "one", "LTowerFields$Poly;", true)
  | _ => ("TowerFields", "divisor", "LTowerFields$Divisor;", true)
def tyX3 : Nat → FieldType := fun k => match k with
  | 0 => .array .int
  | 1 => .int
  | 2 => .int
  | 3 => .object "TowerFields$Line"
  | 4 => .object "TowerFields$Line"
  | 5 => .object "TowerFields$Poly"
  | 6 => .object "TowerFields$Poly"
  | 7 => .object "TowerFields$Poly"
  | 8 => .object "TowerFields$Poly"
  | 9 => .object "TowerFields$Poly"
  | 10 => .object "TowerFields$Poly"
  | 11 => .object "TowerFields$Poly"
  | 12 => .object "TowerFields$Poly"
  | 13 => .object "TowerFields$Poly"
  | _ => .object "TowerFields$Divisor"
abbrev wsX30 : List Cond := u_ws RX3 TX3 15
theorem nmX3 : ∀ a, a < 15 → ∀ b, b < 15 → a ≠ b → (TX3 a).2.1 ≠ (TX3 b).2.1 := by decide +kernel
theorem tyX3_ok : ∀ k, k < 15 → parseFieldDescriptor (TX3 k).2.2.1 = some (tyX3 k) := by decide +kernel
abbrev cX3_init : ByteArray := prog_1_method_1_code
def yX3_init : MethodName := ⟨RX3, "<init>", "()V"⟩
abbrev cX3_number : ByteArray := prog_1_method_2_code
def yX3_number : MethodName := ⟨RX3, "number", "(JJ)I"⟩
abbrev cX3_base : ByteArray := prog_1_method_3_code
def yX3_base : MethodName := ⟨RX3, "base", "()I"⟩
abbrev cX3_letter : ByteArray := prog_1_method_4_code
def yX3_letter : MethodName := ⟨RX3, "letter", "(II)I"⟩
abbrev cX3_top : ByteArray := prog_1_method_5_code
def yX3_top : MethodName := ⟨RX3, "top", "()I"⟩
abbrev cX3_add : ByteArray := prog_1_method_6_code
def yX3_add : MethodName := ⟨RX3, "add", "(II)I"⟩
abbrev cX3_less : ByteArray := prog_1_method_7_code
def yX3_less : MethodName := ⟨RX3, "less", "(II)I"⟩
abbrev cX3_times : ByteArray := prog_1_method_8_code
def yX3_times : MethodName := ⟨RX3, "times", "(II)I"⟩
abbrev cX3_over : ByteArray := prog_1_method_9_code
def yX3_over : MethodName := ⟨RX3, "over", "(II)I"⟩
abbrev cX3_derive : ByteArray := prog_1_method_10_code
def yX3_derive : MethodName := ⟨RX3, "derive", "(I)I"⟩
abbrev cX3_logarithmic : ByteArray := prog_1_method_11_code
def yX3_logarithmic : MethodName := ⟨RX3, "logarithmic", "(I)I"⟩
abbrev cX3_part : ByteArray := prog_1_method_12_code
def yX3_part : MethodName := ⟨RX3, "part", "(II)I"⟩
abbrev cX3_common : ByteArray := prog_1_method_13_code
def yX3_common : MethodName := ⟨RX3, "common", "(II)I"⟩
abbrev cX3_same : ByteArray := prog_1_method_14_code
def yX3_same : MethodName := ⟨RX3, "same", "(II)Z"⟩
abbrev cX3_constant : ByteArray := prog_1_method_15_code
def yX3_constant : MethodName := ⟨RX3, "constant", "(I)Z"⟩
abbrev cX3_low : ByteArray := prog_1_method_16_code
def yX3_low : MethodName := ⟨RX3, "low", "(I)Z"⟩
abbrev cX3_at : ByteArray := prog_1_method_17_code
def yX3_at : MethodName := ⟨RX3, "at", "(IIII)I"⟩
abbrev cX3_count : ByteArray := prog_1_method_18_code
def yX3_count : MethodName := ⟨RX3, "count", "()I"⟩
abbrev cX3_requireElement : ByteArray := prog_1_method_19_code
def yX3_requireElement : MethodName := ⟨RX3, "requireElement", "(I)V"⟩
abbrev cX3_requireRoom : ByteArray := prog_1_method_20_code
def yX3_requireRoom : MethodName := ⟨RX3, "requireRoom", "()V"⟩
abbrev cX3_place : ByteArray := prog_1_method_21_code
def yX3_place : MethodName := ⟨RX3, "place", "(IIII)I"⟩
abbrev cX3_stored : ByteArray := prog_1_method_22_code
def yX3_stored : MethodName := ⟨RX3, "stored", "(I)I"⟩
abbrev cX3_store : ByteArray := prog_1_method_23_code
def yX3_store : MethodName := ⟨RX3, "store", "(II)V"⟩
abbrev cX3_load : ByteArray := prog_1_method_24_code
def yX3_load : MethodName := ⟨RX3, "load", "(IILTowerFields$Poly;)V"⟩
abbrev cX3_takeTwo : ByteArray := prog_1_method_25_code
def yX3_takeTwo : MethodName := ⟨RX3, "takeTwo", "(II)V"⟩
abbrev cX3_sumUp : ByteArray := prog_1_method_26_code
def yX3_sumUp : MethodName := ⟨RX3, "sumUp", "(I)V"⟩
abbrev cX3_keepSingle : ByteArray := prog_1_method_27_code
def yX3_keepSingle : MethodName := ⟨RX3, "keepSingle", "(III)I"⟩
abbrev cX3_keepLowest : ByteArray := prog_1_method_28_code
def yX3_keepLowest : MethodName := ⟨RX3, "keepLowest", "()I"⟩
abbrev cX3_isTooGreat : ByteArray := prog_1_method_29_code
def yX3_isTooGreat : MethodName := ⟨RX3, "isTooGreat", "(LTowerFields$Poly;)Z"⟩
abbrev cX3_keep : ByteArray := prog_1_method_30_code
def yX3_keep : MethodName := ⟨RX3, "keep", "(LTowerFields$Poly;LTowerFields$Poly;)I"⟩
abbrev cX3_hasNoSlope : ByteArray := prog_1_method_31_code
def yX3_hasNoSlope : MethodName := ⟨RX3, "hasNoSlope", "(I)Z"⟩
abbrev cX3_slopeOfFraction : ByteArray := prog_1_method_32_code
def yX3_slopeOfFraction : MethodName := ⟨RX3, "slopeOfFraction", "(I)V"⟩
abbrev cX3_slopeOfPoly : ByteArray := prog_1_method_33_code
def yX3_slopeOfPoly : MethodName := ⟨RX3, "slopeOfPoly", "(LTowerFields$Poly;LTowerFields$Poly;)V"⟩
abbrev cX3_slopeOverProduct : ByteArray := prog_1_method_34_code
def yX3_slopeOverProduct : MethodName := ⟨RX3, "slopeOverProduct", "(LTowerFields$Poly;LTowerFields$Poly;)V"⟩
abbrev cX3_setSlope : ByteArray := prog_1_method_35_code
def yX3_setSlope : MethodName := ⟨RX3, "setSlope", "(I)V"⟩
abbrev cX3_makeSquareFree : ByteArray := prog_1_method_36_code
def yX3_makeSquareFree : MethodName := ⟨RX3, "makeSquareFree", "(LTowerFields$Poly;)V"⟩
abbrev cX3_splitSquareFree : ByteArray := prog_1_method_37_code
def yX3_splitSquareFree : MethodName := ⟨RX3, "splitSquareFree", "(LTowerFields$Poly;I)V"⟩
abbrev cX3_residue : ByteArray := prog_1_method_38_code
def yX3_residue : MethodName := ⟨RX3, "residue", "(J)I"⟩
abbrev cX3_inverse : ByteArray := prog_1_method_39_code
def yX3_inverse : MethodName := ⟨RX3, "inverse", "(I)I"⟩
def RX4 : String := "TowerFieldsModel"
def TX4 : u_T := fun k => match k with
  | 0 => ("TowerFieldsModel", "code", "I", false)
  | 1 => ("TowerFieldsModel", "many", "I", false)
  | 2 => ("TowerFieldsModel", "above", "[I", true)
  | 3 => ("TowerFieldsModel", "below", "[I", true)
  | 4 => ("TowerFieldsModel", "kind", "I", false)
  | 5 => ("TowerFieldsModel", "slopeUp", "[I", true)
  | 6 => ("TowerFieldsModel", "slopeDown", "[I", true)
  | 7 => ("TowerFieldsModel", "a", "[I", true)
  | 8 => ("TowerFieldsModel", "b", "[I", true)
  | 9 => ("TowerFieldsModel", "c", "[I", true)
  | 10 => ("TowerFieldsModel", "d", "[I", true)
  | 11 => ("TowerFieldsModel", "e", "[I", true)
  | 12 => ("TowerFieldsModel", "up", "[I", true)
  | 13 => ("TowerFieldsModel", "down", "[I", true)
  | 14 => ("TowerFieldsModel", "columns", "I", false)
  | 15 => ("TowerFieldsModel", "pivot", "[I", true)
  | 16 => ("TowerFieldsModel", "column", "[I", true)
  | 17 => ("TowerFieldsModel", "from", "[I", true)
  | 18 => ("TowerFieldsModel", "now", "[I", true)
  | 19 => ("TowerFieldsModel", "mine", "[I", true)
  | _ => ("TowerFieldsModel", "slot", "[I", true)
def tyX4 : Nat → FieldType := fun k => match k with
  | 0 => .int
  | 1 => .int
  | 2 => .array .int
  | 3 => .array .int
  | 4 => .int
  | 5 => .array .int
  | 6 => .array .int
  | 7 => .array .int
  | 8 => .array .int
  | 9 => .array .int
  | 10 => .array .int
  | 11 => .array .int
  | 12 => .array .int
  | 13 => .array .int
  | 14 => .int
  | 15 => .array .int
  | 16 => .array .int
  | 17 => .array .int
  | 18 => .array .int
  | 19 => .array .int
  | _ => .array .int
abbrev wsX40 : List Cond := u_ws RX4 TX4 21
theorem nmX4 : ∀ a, a < 21 → ∀ b, b < 21 → a ≠ b → (TX4 a).2.1 ≠ (TX4 b).2.1 := by decide +kernel
theorem tyX4_ok : ∀ k, k < 21 → parseFieldDescriptor (TX4 k).2.2.1 = some (tyX4 k) := by decide +kernel
abbrev cX4_init : ByteArray := prog_6_method_1_code
def yX4_init : MethodName := ⟨RX4, "<init>", "()V"⟩
abbrev cX4_thrown : ByteArray := prog_6_method_2_code
def yX4_thrown : MethodName := ⟨RX4, "thrown", "()I"⟩
abbrev cX4_raise : ByteArray := prog_6_method_3_code
def yX4_raise : MethodName := ⟨RX4, "raise", "(I)I"⟩
abbrev cX4_modulo : ByteArray := prog_6_method_4_code
def yX4_modulo : MethodName := ⟨RX4, "modulo", "(J)I"⟩
abbrev cX4_inverse : ByteArray := prog_6_method_5_code
def yX4_inverse : MethodName := ⟨RX4, "inverse", "(I)I"⟩
abbrev cX4_clear : ByteArray := prog_6_method_6_code
def yX4_clear : MethodName := ⟨RX4, "clear", "([I)V"⟩
abbrev cX4_copy : ByteArray := prog_6_method_7_code
def yX4_copy : MethodName := ⟨RX4, "copy", "([I[I)V"⟩
abbrev cX4_isNone : ByteArray := prog_6_method_8_code
def yX4_isNone : MethodName := ⟨RX4, "isNone", "([I)Z"⟩
abbrev cX4_head : ByteArray := prog_6_method_9_code
def yX4_head : MethodName := ⟨RX4, "head", "([II)I"⟩
abbrev cX4_load : ByteArray := prog_6_method_10_code
def yX4_load : MethodName := ⟨RX4, "load", "([I[II)V"⟩
abbrev cX4_multiply : ByteArray := prog_6_method_11_code
def yX4_multiply : MethodName := ⟨RX4, "multiply", "([I[I[I)V"⟩
abbrev cX4_plus : ByteArray := prog_6_method_12_code
def yX4_plus : MethodName := ⟨RX4, "plus", "([I[II)V"⟩
abbrev cX4_slope : ByteArray := prog_6_method_13_code
def yX4_slope : MethodName := ⟨RX4, "slope", "([I[II)V"⟩
abbrev cX4_reduce : ByteArray := prog_6_method_14_code
def yX4_reduce : MethodName := ⟨RX4, "reduce", "()Z"⟩
abbrev cX4_hangs : ByteArray := prog_6_method_15_code
def yX4_hangs : MethodName := ⟨RX4, "hangs", "([III)Z"⟩
abbrev cX4_settle : ByteArray := prog_6_method_16_code
def yX4_settle : MethodName := ⟨RX4, "settle", "()V"⟩
abbrev cX4_keep : ByteArray := prog_6_method_17_code
def yX4_keep : MethodName := ⟨RX4, "keep", "()I"⟩
abbrev cX4_made : ByteArray := prog_6_method_18_code
def yX4_made : MethodName := ⟨RX4, "made", "(I)I"⟩
abbrev cX4_isElement : ByteArray := prog_6_method_19_code
def yX4_isElement : MethodName := ⟨RX4, "isElement", "(I)Z"⟩
abbrev cX4_are : ByteArray := prog_6_method_20_code
def yX4_are : MethodName := ⟨RX4, "are", "(II)Z"⟩
abbrev cX4_one : ByteArray := prog_6_method_21_code
def yX4_one : MethodName := ⟨RX4, "one", "([I)V"⟩
abbrev cX4_number : ByteArray := prog_6_method_22_code
def yX4_number : MethodName := ⟨RX4, "number", "(JJ)I"⟩
abbrev cX4_base : ByteArray := prog_6_method_23_code
def yX4_base : MethodName := ⟨RX4, "base", "()I"⟩
abbrev cX4_letterItself : ByteArray := prog_6_method_24_code
def yX4_letterItself : MethodName := ⟨RX4, "letterItself", "()I"⟩
abbrev cX4_isLow : ByteArray := prog_6_method_25_code
def yX4_isLow : MethodName := ⟨RX4, "isLow", "(I)Z"⟩
abbrev cX4_letter : ByteArray := prog_6_method_26_code
def yX4_letter : MethodName := ⟨RX4, "letter", "(II)I"⟩
abbrev cX4_top : ByteArray := prog_6_method_27_code
def yX4_top : MethodName := ⟨RX4, "top", "()I"⟩
abbrev cX4_sum : ByteArray := prog_6_method_28_code
def yX4_sum : MethodName := ⟨RX4, "sum", "(III)I"⟩
abbrev cX4_add : ByteArray := prog_6_method_29_code
def yX4_add : MethodName := ⟨RX4, "add", "(II)I"⟩
abbrev cX4_less : ByteArray := prog_6_method_30_code
def yX4_less : MethodName := ⟨RX4, "less", "(II)I"⟩
abbrev cX4_times : ByteArray := prog_6_method_31_code
def yX4_times : MethodName := ⟨RX4, "times", "(II)I"⟩
abbrev cX4_over : ByteArray := prog_6_method_32_code
def yX4_over : MethodName := ⟨RX4, "over", "(II)I"⟩
abbrev cX4_deriveRow : ByteArray := prog_6_method_33_code
def yX4_deriveRow : MethodName := ⟨RX4, "deriveRow", "([I[I)V"⟩
abbrev cX4_deriveUp : ByteArray := prog_6_method_34_code
def yX4_deriveUp : MethodName := ⟨RX4, "deriveUp", "(I)V"⟩
abbrev cX4_finish : ByteArray := prog_6_method_35_code
def yX4_finish : MethodName := ⟨RX4, "finish", "([I[I)V"⟩
abbrev cX4_derive : ByteArray := prog_6_method_36_code
def yX4_derive : MethodName := ⟨RX4, "derive", "(I)I"⟩
abbrev cX4_logarithmic : ByteArray := prog_6_method_37_code
def yX4_logarithmic : MethodName := ⟨RX4, "logarithmic", "(I)I"⟩
abbrev cX4_divide : ByteArray := prog_6_method_38_code
def yX4_divide : MethodName := ⟨RX4, "divide", "([I)V"⟩
abbrev cX4_makeMonic : ByteArray := prog_6_method_39_code
def yX4_makeMonic : MethodName := ⟨RX4, "makeMonic", "([I)V"⟩
abbrev cX4_shared : ByteArray := prog_6_method_40_code
def yX4_shared : MethodName := ⟨RX4, "shared", "()V"⟩
abbrev cX4_common : ByteArray := prog_6_method_41_code
def yX4_common : MethodName := ⟨RX4, "common", "(II)I"⟩
abbrev cX4_bare : ByteArray := prog_6_method_42_code
def yX4_bare : MethodName := ⟨RX4, "bare", "()V"⟩
abbrev cX4_part : ByteArray := prog_6_method_43_code
def yX4_part : MethodName := ⟨RX4, "part", "(II)I"⟩
abbrev cX4_same : ByteArray := prog_6_method_44_code
def yX4_same : MethodName := ⟨RX4, "same", "(II)Z"⟩
abbrev cX4_constant : ByteArray := prog_6_method_45_code
def yX4_constant : MethodName := ⟨RX4, "constant", "(I)Z"⟩
abbrev cX4_low : ByteArray := prog_6_method_46_code
def yX4_low : MethodName := ⟨RX4, "low", "(I)Z"⟩
abbrev cX4_at : ByteArray := prog_6_method_47_code
def yX4_at : MethodName := ⟨RX4, "at", "(IIII)I"⟩
abbrev cX4_count : ByteArray := prog_6_method_48_code
def yX4_count : MethodName := ⟨RX4, "count", "()I"⟩
def RJx00060 : String := "java/lang/ArrayIndexOutOfBoundsException"
def TJx00060 : u_T := fun k => match k with
  | 0 => ("java/lang/Throwable", "backtrace", "Ljava/lang/Object;", false)
  | 1 => ("java/lang/Throwable", "detailMessage", "Ljava/lang/String;", false)
  | 2 => ("java/lang/Throwable", "cause", "Ljava/lang/Throwable;", false)
  | 3 => ("java/lang/Throwable", "stackTrace", "[Ljava/lang/StackTraceElement;", false)
  | 4 => ("java/lang/Throwable", "depth", "I", false)
  | _ => ("java/lang/Throwable", "suppressedExceptions", "Ljava/util/List;", false)
def tyJx00060 : Nat → FieldType := fun k => match k with
  | 0 => .object "java/lang/Object"
  | 1 => .object "java/lang/String"
  | 2 => .object "java/lang/Throwable"
  | 3 => .array (.object "java/lang/StackTraceElement")
  | 4 => .int
  | _ => .object "java/util/List"
abbrev wsJx000600 : List Cond := u_ws RJx00060 TJx00060 6
theorem nmJx00060 : ∀ a, a < 6 → ∀ b, b < 6 → a ≠ b → (TJx00060 a).2.1 ≠ (TJx00060 b).2.1 := by decide +kernel
theorem tyJx00060_ok : ∀ k, k < 6 → parseFieldDescriptor (TJx00060 k).2.2.1 = some (tyJx00060 k) := by decide +kernel
abbrev cJx00060_init_a7421 : ByteArray := prog_8_method_2_code
def yJx00060_init_a7421 : MethodName := ⟨RJx00060, "<init>", "(Ljava/lang/String;)V"⟩
def RJ9 : String := "java/lang/Math"
def TJ9 : u_T := fun k => match k with
  | _ => ("", "", "", false)
def tyJ9 : Nat → FieldType := fun k => match k with
  | _ => .int
abbrev wsJ90 : List Cond := u_ws RJ9 TJ9 0
theorem nmJ9 : ∀ a, a < 0 → ∀ b, b < 0 → a ≠ b → (TJ9 a).2.1 ≠ (TJ9 b).2.1 := by decide +kernel
theorem tyJ9_ok : ∀ k, k < 0 → parseFieldDescriptor (TJ9 k).2.2.1 = some (tyJ9 k) := by decide +kernel
abbrev cJ9_max_7cf53 : ByteArray := prog_13_method_65_code
def yJ9_max_7cf53 : MethodName := ⟨RJ9, "max", "(II)I"⟩
abbrev cJ9_min_7cf53 : ByteArray := prog_13_method_69_code
def yJ9_min_7cf53 : MethodName := ⟨RJ9, "min", "(II)I"⟩
def RJ0 : String := "java/lang/String"
def TJ0 : u_T := fun k => match k with
  | 0 => ("java/lang/String", "value", "[B", true)
  | _ => ("java/lang/String", "coder", "B", true)
def tyJ0 : Nat → FieldType := fun k => match k with
  | 0 => .array .byte
  | _ => .byte
abbrev wsJ00 : List Cond := u_ws RJ0 TJ0 2
theorem nmJ0 : ∀ a, a < 2 → ∀ b, b < 2 → a ≠ b → (TJ0 a).2.1 ≠ (TJ0 b).2.1 := by decide +kernel
theorem tyJ0_ok : ∀ k, k < 2 → parseFieldDescriptor (TJ0 k).2.2.1 = some (tyJ0 k) := by decide +kernel
def RL : String := "TowerFieldsLaw"
abbrev cL_number : ByteArray := method_3_code
def yL_number : MethodName := ⟨RL, "number", "(LTowerFields;JJ[J)I"⟩
abbrev cL_base : ByteArray := method_4_code
def yL_base : MethodName := ⟨RL, "base", "(LTowerFields;[J)I"⟩
abbrev cL_letter : ByteArray := method_5_code
def yL_letter : MethodName := ⟨RL, "letter", "(LTowerFields;II[J)I"⟩
abbrev cL_top : ByteArray := method_6_code
def yL_top : MethodName := ⟨RL, "top", "(LTowerFields;[J)I"⟩
abbrev cL_add : ByteArray := method_7_code
def yL_add : MethodName := ⟨RL, "add", "(LTowerFields;II[J)I"⟩
abbrev cL_less : ByteArray := method_8_code
def yL_less : MethodName := ⟨RL, "less", "(LTowerFields;II[J)I"⟩
abbrev cL_times : ByteArray := method_9_code
def yL_times : MethodName := ⟨RL, "times", "(LTowerFields;II[J)I"⟩
abbrev cL_over : ByteArray := method_10_code
def yL_over : MethodName := ⟨RL, "over", "(LTowerFields;II[J)I"⟩
abbrev cL_derive : ByteArray := method_11_code
def yL_derive : MethodName := ⟨RL, "derive", "(LTowerFields;I[J)I"⟩
abbrev cL_logarithmic : ByteArray := method_12_code
def yL_logarithmic : MethodName := ⟨RL, "logarithmic", "(LTowerFields;I[J)I"⟩
abbrev cL_part : ByteArray := method_13_code
def yL_part : MethodName := ⟨RL, "part", "(LTowerFields;II[J)I"⟩
abbrev cL_common : ByteArray := method_14_code
def yL_common : MethodName := ⟨RL, "common", "(LTowerFields;II[J)I"⟩
abbrev cL_same : ByteArray := method_15_code
def yL_same : MethodName := ⟨RL, "same", "(LTowerFields;II[J)I"⟩
abbrev cL_constant : ByteArray := method_16_code
def yL_constant : MethodName := ⟨RL, "constant", "(LTowerFields;I[J)I"⟩
abbrev cL_low : ByteArray := method_17_code
def yL_low : MethodName := ⟨RL, "low", "(LTowerFields;I[J)I"⟩
abbrev cL_at : ByteArray := method_18_code
def yL_at : MethodName := ⟨RL, "at", "(LTowerFields;IIII[J)I"⟩
abbrev cL_law : ByteArray := code
def yL_law : MethodName := ⟨RL, "law", "([I)Z"⟩
abbrev vwCl : List vw_C := [(RJ0, TJ0, 2), (RJx00060, TJx00060, 6), (RX0, TX0, 15), (RX1, TX1, 2), (RX2, TX2, 1), (RX3, TX3, 15), (RX4, TX4, 21)]
end
section
def wsG : List Cond := lw_tbl.filter goodWord
theorem zG {w : Cond} (i : Nat) (h : lw_tbl[i]? = some w) (hg : goodWord w = true) : w ∈ wsG := List.mem_filter.mpr ⟨List.mem_of_getElem? h, hg⟩
theorem zp0 : Cond.selects "java/lang/Throwable" ⟨"java/lang/Throwable", "fillInStackTrace", "(I)Ljava/lang/Throwable;"⟩ ⟨"java/lang/Throwable", "fillInStackTrace", "(I)Ljava/lang/Throwable;"⟩ ∈ wsG := zG 0 rfl rfl
theorem zp1 : Cond.selects "TowerFields" ⟨"TowerFields", "requireRoom", "()V"⟩ ⟨"TowerFields", "requireRoom", "()V"⟩ ∈ wsG := zG 1 rfl rfl
theorem zp2 : Cond.selects "TowerFields" ⟨"TowerFields", "keepSingle", "(III)I"⟩ ⟨"TowerFields", "keepSingle", "(III)I"⟩ ∈ wsG := zG 2 rfl rfl
theorem zp3 : Cond.selects "TowerFields" ⟨"TowerFields", "keep", "(LTowerFields$Poly;LTowerFields$Poly;)I"⟩ ⟨"TowerFields", "keep", "(LTowerFields$Poly;LTowerFields$Poly;)I"⟩ ∈ wsG := zG 3 rfl rfl
theorem zp4 : Cond.selects "TowerFields" ⟨"TowerFields", "store", "(II)V"⟩ ⟨"TowerFields", "store", "(II)V"⟩ ∈ wsG := zG 4 rfl rfl
theorem zp5 : Cond.selects "TowerFields" ⟨"TowerFields", "requireElement", "(I)V"⟩ ⟨"TowerFields", "requireElement", "(I)V"⟩ ∈ wsG := zG 5 rfl rfl
theorem zp6 : Cond.selects "TowerFields" ⟨"TowerFields", "hasNoSlope", "(I)Z"⟩ ⟨"TowerFields", "hasNoSlope", "(I)Z"⟩ ∈ wsG := zG 6 rfl rfl
theorem zp7 : Cond.selects "TowerFields" ⟨"TowerFields", "slopeOfFraction", "(I)V"⟩ ⟨"TowerFields", "slopeOfFraction", "(I)V"⟩ ∈ wsG := zG 7 rfl rfl
theorem zp8 : Cond.selects "TowerFields" ⟨"TowerFields", "load", "(IILTowerFields$Poly;)V"⟩ ⟨"TowerFields", "load", "(IILTowerFields$Poly;)V"⟩ ∈ wsG := zG 8 rfl rfl
theorem zp9 : Cond.selects "TowerFields" ⟨"TowerFields", "stored", "(I)I"⟩ ⟨"TowerFields", "stored", "(I)I"⟩ ∈ wsG := zG 9 rfl rfl
theorem zp10 : Cond.selects "TowerFields" ⟨"TowerFields", "slopeOfPoly", "(LTowerFields$Poly;LTowerFields$Poly;)V"⟩ ⟨"TowerFields", "slopeOfPoly", "(LTowerFields$Poly;LTowerFields$Poly;)V"⟩ ∈ wsG := zG 10 rfl rfl
theorem zp11 : Cond.selects "TowerFields" ⟨"TowerFields", "setSlope", "(I)V"⟩ ⟨"TowerFields", "setSlope", "(I)V"⟩ ∈ wsG := zG 11 rfl rfl
theorem zp12 : Cond.selects "TowerFields$Divisor" ⟨"TowerFields$Divisor", "divideBoth", "(LTowerFields$Poly;LTowerFields$Poly;)Z"⟩ ⟨"TowerFields$Divisor", "divideBoth", "(LTowerFields$Poly;LTowerFields$Poly;)Z"⟩ ∈ wsG := zG 12 rfl rfl
theorem zp13 : Cond.selects "TowerFields$Divisor" ⟨"TowerFields$Divisor", "divide", "(LTowerFields$Poly;LTowerFields$Poly;)Z"⟩ ⟨"TowerFields$Divisor", "divide", "(LTowerFields$Poly;LTowerFields$Poly;)Z"⟩ ∈ wsG := zG 13 rfl rfl
theorem zp14 : Cond.selects "TowerFields$Divisor" ⟨"TowerFields$Divisor", "findContents", "(LTowerFields$Poly;LTowerFields$Poly;)V"⟩ ⟨"TowerFields$Divisor", "findContents", "(LTowerFields$Poly;LTowerFields$Poly;)V"⟩ ∈ wsG := zG 14 rfl rfl
theorem zp15 : Cond.selects "TowerFields$Divisor" ⟨"TowerFields$Divisor", "contentOf", "(LTowerFields$Poly;LTowerFields$Line;)V"⟩ ⟨"TowerFields$Divisor", "contentOf", "(LTowerFields$Poly;LTowerFields$Line;)V"⟩ ∈ wsG := zG 15 rfl rfl
theorem zp16 : Cond.selects "TowerFields$Line" ⟨"TowerFields$Line", "exchange", "(LTowerFields$Line;)V"⟩ ⟨"TowerFields$Line", "exchange", "(LTowerFields$Line;)V"⟩ ∈ wsG := zG 16 rfl rfl
theorem zp17 : Cond.selects "TowerFields$Divisor" ⟨"TowerFields$Divisor", "leadOf", "(LTowerFields$Poly;LTowerFields$Line;LTowerFields$Line;)V"⟩ ⟨"TowerFields$Divisor", "leadOf", "(LTowerFields$Poly;LTowerFields$Line;LTowerFields$Line;)V"⟩ ∈ wsG := zG 17 rfl rfl
theorem zp18 : Cond.selects "TowerFields$Divisor" ⟨"TowerFields$Divisor", "findImage", "(LTowerFields$Poly;LTowerFields$Poly;I)Z"⟩ ⟨"TowerFields$Divisor", "findImage", "(LTowerFields$Poly;LTowerFields$Poly;I)Z"⟩ ∈ wsG := zG 18 rfl rfl
theorem zp19 : Cond.selects "TowerFields$Divisor" ⟨"TowerFields$Divisor", "takeIn", "(I)Z"⟩ ⟨"TowerFields$Divisor", "takeIn", "(I)Z"⟩ ∈ wsG := zG 19 rfl rfl
theorem zp20 : Cond.selects "TowerFields$Divisor" ⟨"TowerFields$Divisor", "tryPieced", "(LTowerFields$Poly;LTowerFields$Poly;)Z"⟩ ⟨"TowerFields$Divisor", "tryPieced", "(LTowerFields$Poly;LTowerFields$Poly;)Z"⟩ ∈ wsG := zG 20 rfl rfl
theorem zp21 : Cond.selects "TowerFields" ⟨"TowerFields", "takeTwo", "(II)V"⟩ ⟨"TowerFields", "takeTwo", "(II)V"⟩ ∈ wsG := zG 21 rfl rfl
theorem zp22 : Cond.selects "TowerFields" ⟨"TowerFields", "sumUp", "(I)V"⟩ ⟨"TowerFields", "sumUp", "(I)V"⟩ ∈ wsG := zG 22 rfl rfl
theorem zp23 : Cond.selects "TowerFields" ⟨"TowerFields", "keepLowest", "()I"⟩ ⟨"TowerFields", "keepLowest", "()I"⟩ ∈ wsG := zG 23 rfl rfl
theorem zp24 : Cond.selects "TowerFields" ⟨"TowerFields", "slopeOverProduct", "(LTowerFields$Poly;LTowerFields$Poly;)V"⟩ ⟨"TowerFields", "slopeOverProduct", "(LTowerFields$Poly;LTowerFields$Poly;)V"⟩ ∈ wsG := zG 24 rfl rfl
theorem zp25 : Cond.selects "TowerFields" ⟨"TowerFields", "makeSquareFree", "(LTowerFields$Poly;)V"⟩ ⟨"TowerFields", "makeSquareFree", "(LTowerFields$Poly;)V"⟩ ∈ wsG := zG 25 rfl rfl
theorem zp26 : Cond.selects "TowerFields" ⟨"TowerFields", "splitSquareFree", "(LTowerFields$Poly;I)V"⟩ ⟨"TowerFields", "splitSquareFree", "(LTowerFields$Poly;I)V"⟩ ∈ wsG := zG 26 rfl rfl
theorem zp27 : Cond.selects "TowerFieldsModel" ⟨"TowerFieldsModel", "one", "([I)V"⟩ ⟨"TowerFieldsModel", "one", "([I)V"⟩ ∈ wsG := zG 27 rfl rfl
theorem zp28 : Cond.selects "TowerFieldsModel" ⟨"TowerFieldsModel", "keep", "()I"⟩ ⟨"TowerFieldsModel", "keep", "()I"⟩ ∈ wsG := zG 28 rfl rfl
theorem zp29 : Cond.selects "TowerFieldsModel" ⟨"TowerFieldsModel", "are", "(II)Z"⟩ ⟨"TowerFieldsModel", "are", "(II)Z"⟩ ∈ wsG := zG 29 rfl rfl
theorem zp30 : Cond.selects "TowerFieldsModel" ⟨"TowerFieldsModel", "isElement", "(I)Z"⟩ ⟨"TowerFieldsModel", "isElement", "(I)Z"⟩ ∈ wsG := zG 30 rfl rfl
theorem zp31 : Cond.selects "TowerFieldsModel" ⟨"TowerFieldsModel", "isLow", "(I)Z"⟩ ⟨"TowerFieldsModel", "isLow", "(I)Z"⟩ ∈ wsG := zG 31 rfl rfl
theorem zp32 : Cond.selects "TowerFieldsModel" ⟨"TowerFieldsModel", "raise", "(I)I"⟩ ⟨"TowerFieldsModel", "raise", "(I)I"⟩ ∈ wsG := zG 32 rfl rfl
theorem zp33 : Cond.selects "TowerFieldsModel" ⟨"TowerFieldsModel", "load", "([I[II)V"⟩ ⟨"TowerFieldsModel", "load", "([I[II)V"⟩ ∈ wsG := zG 33 rfl rfl
theorem zp34 : Cond.selects "TowerFieldsModel" ⟨"TowerFieldsModel", "multiply", "([I[I[I)V"⟩ ⟨"TowerFieldsModel", "multiply", "([I[I[I)V"⟩ ∈ wsG := zG 34 rfl rfl
theorem zp35 : Cond.selects "TowerFieldsModel" ⟨"TowerFieldsModel", "reduce", "()Z"⟩ ⟨"TowerFieldsModel", "reduce", "()Z"⟩ ∈ wsG := zG 35 rfl rfl
theorem zp36 : Cond.selects "TowerFieldsModel" ⟨"TowerFieldsModel", "hangs", "([III)Z"⟩ ⟨"TowerFieldsModel", "hangs", "([III)Z"⟩ ∈ wsG := zG 36 rfl rfl
theorem zp37 : Cond.selects "TowerFieldsModel" ⟨"TowerFieldsModel", "settle", "()V"⟩ ⟨"TowerFieldsModel", "settle", "()V"⟩ ∈ wsG := zG 37 rfl rfl
theorem zp38 : Cond.selects "TowerFieldsModel" ⟨"TowerFieldsModel", "letterItself", "()I"⟩ ⟨"TowerFieldsModel", "letterItself", "()I"⟩ ∈ wsG := zG 38 rfl rfl
theorem zp39 : Cond.selects "TowerFieldsModel" ⟨"TowerFieldsModel", "sum", "(III)I"⟩ ⟨"TowerFieldsModel", "sum", "(III)I"⟩ ∈ wsG := zG 39 rfl rfl
theorem zp40 : Cond.selects "TowerFieldsModel" ⟨"TowerFieldsModel", "made", "(I)I"⟩ ⟨"TowerFieldsModel", "made", "(I)I"⟩ ∈ wsG := zG 40 rfl rfl
theorem zp41 : Cond.selects "TowerFieldsModel" ⟨"TowerFieldsModel", "deriveUp", "(I)V"⟩ ⟨"TowerFieldsModel", "deriveUp", "(I)V"⟩ ∈ wsG := zG 41 rfl rfl
theorem zp42 : Cond.selects "TowerFieldsModel" ⟨"TowerFieldsModel", "deriveRow", "([I[I)V"⟩ ⟨"TowerFieldsModel", "deriveRow", "([I[I)V"⟩ ∈ wsG := zG 42 rfl rfl
theorem zp43 : Cond.selects "TowerFieldsModel" ⟨"TowerFieldsModel", "finish", "([I[I)V"⟩ ⟨"TowerFieldsModel", "finish", "([I[I)V"⟩ ∈ wsG := zG 43 rfl rfl
theorem zp44 : Cond.selects "TowerFieldsModel" ⟨"TowerFieldsModel", "shared", "()V"⟩ ⟨"TowerFieldsModel", "shared", "()V"⟩ ∈ wsG := zG 44 rfl rfl
theorem zp45 : Cond.selects "TowerFieldsModel" ⟨"TowerFieldsModel", "makeMonic", "([I)V"⟩ ⟨"TowerFieldsModel", "makeMonic", "([I)V"⟩ ∈ wsG := zG 45 rfl rfl
theorem zp46 : Cond.selects "TowerFieldsModel" ⟨"TowerFieldsModel", "divide", "([I)V"⟩ ⟨"TowerFieldsModel", "divide", "([I)V"⟩ ∈ wsG := zG 46 rfl rfl
theorem zp47 : Cond.selects "TowerFieldsModel" ⟨"TowerFieldsModel", "bare", "()V"⟩ ⟨"TowerFieldsModel", "bare", "()V"⟩ ∈ wsG := zG 47 rfl rfl
set_option maxRecDepth 40000 in
theorem zw0 : (Jvm.Cond.initialized "TowerFieldsLaw") ∈ wsG := zG 48 rfl rfl
set_option maxRecDepth 40000 in
theorem zw1 : (Jvm.Cond.initialized "TowerFields") ∈ wsG := zG 49 rfl rfl
set_option maxRecDepth 40000 in
theorem zw2 : (Jvm.Cond.initialized "TowerFields$Line") ∈ wsG := zG 50 rfl rfl
set_option maxRecDepth 40000 in
theorem zw3 : (Jvm.Cond.initialized "TowerFields$Poly") ∈ wsG := zG 51 rfl rfl
set_option maxRecDepth 40000 in
theorem zw4 : (Jvm.Cond.initialized "TowerFields$Divisor") ∈ wsG := zG 52 rfl rfl
set_option maxRecDepth 40000 in
theorem zw5 : (Jvm.Cond.initialized "TowerFieldsModel") ∈ wsG := zG 53 rfl rfl
set_option maxRecDepth 40000 in
theorem zw6 : (Jvm.Cond.initialized "java/lang/Throwable") ∈ wsG := zG 54 rfl rfl
set_option maxRecDepth 40000 in
theorem zw7 : (Jvm.Cond.initialized "java/lang/Exception") ∈ wsG := zG 55 rfl rfl
set_option maxRecDepth 40000 in
theorem zw8 : (Jvm.Cond.initialized "java/lang/RuntimeException") ∈ wsG := zG 56 rfl rfl
set_option maxRecDepth 40000 in
theorem zw9 : (Jvm.Cond.initialized "java/lang/ArithmeticException") ∈ wsG := zG 57 rfl rfl
set_option maxRecDepth 40000 in
theorem zw10 : (Jvm.Cond.initialized "java/lang/String") ∈ wsG := zG 58 rfl rfl
set_option maxRecDepth 40000 in
theorem zw11 : (Jvm.Cond.initialized "java/lang/IllegalStateException") ∈ wsG := zG 59 rfl rfl
set_option maxRecDepth 40000 in
theorem zw12 : (Jvm.Cond.initialized "java/lang/IndexOutOfBoundsException") ∈ wsG := zG 60 rfl rfl
set_option maxRecDepth 40000 in
theorem zw13 : (Jvm.Cond.initialized "java/lang/ArrayIndexOutOfBoundsException") ∈ wsG := zG 61 rfl rfl
set_option maxRecDepth 40000 in
theorem zw14 : (Jvm.Cond.initialized "java/lang/IllegalArgumentException") ∈ wsG := zG 62 rfl rfl
set_option maxRecDepth 40000 in
theorem zw15 : (Jvm.Cond.initialized "java/lang/Math") ∈ wsG := zG 63 rfl rfl
set_option maxRecDepth 40000 in
theorem zw16 : (Jvm.Cond.classLink "TowerFieldsLaw" (8 : Nat) "TowerFields") ∈ wsG := zG 64 rfl rfl
set_option maxRecDepth 40000 in
theorem zw17 : (Jvm.Cond.instantiable "TowerFields" (15 : Nat)) ∈ wsG := zG 65 rfl rfl
set_option maxRecDepth 40000 in
theorem zw18 : (Jvm.Cond.methodLink "TowerFieldsLaw" (72 : Nat) ({ cls := "TowerFields", name := "<init>", desc := "()V" } : Jvm.MethodName)) ∈ wsG := zG 66 rfl rfl
set_option maxRecDepth 40000 in
theorem zw19 : (Jvm.Cond.instanceMethod ({ cls := "TowerFields", name := "<init>", desc := "()V" } : Jvm.MethodName)) ∈ wsG := zG 67 rfl rfl
set_option maxRecDepth 40000 in
theorem zw20 : (Jvm.Cond.code ({ cls := "TowerFields", name := "<init>", desc := "()V" } : Jvm.MethodName) prog_1_method_1_code (1 : Nat) (Option.none : Option Jvm.ClassFile.FieldType)) ∈ wsG := zG 68 rfl rfl
set_option maxRecDepth 40000 in
theorem zw21 : (Jvm.Cond.methodLink "TowerFields" (3 : Nat) ({ cls := "java/lang/Object", name := "<init>", desc := "()V" } : Jvm.MethodName)) ∈ wsG := zG 69 rfl rfl
set_option maxRecDepth 40000 in
theorem zw22 : (Jvm.Cond.instanceMethod ({ cls := "java/lang/Object", name := "<init>", desc := "()V" } : Jvm.MethodName)) ∈ wsG := zG 70 rfl rfl
set_option maxRecDepth 40000 in
theorem zw23 : (Jvm.Cond.code ({ cls := "java/lang/Object", name := "<init>", desc := "()V" } : Jvm.MethodName) object_method_1_code (1 : Nat) (Option.none : Option Jvm.ClassFile.FieldType)) ∈ wsG := zG 71 rfl rfl
set_option maxRecDepth 40000 in
theorem zw24 : (Jvm.Cond.classLink "TowerFields" (20 : Nat) "TowerFields$Line") ∈ wsG := zG 72 rfl rfl
set_option maxRecDepth 40000 in
theorem zw25 : (Jvm.Cond.instantiable "TowerFields$Line" (2 : Nat)) ∈ wsG := zG 73 rfl rfl
set_option maxRecDepth 40000 in
theorem zw27 : (Jvm.Cond.instanceMethod ({ cls := "TowerFields$Line", name := "<init>", desc := "()V" } : Jvm.MethodName)) ∈ wsG := zG 75 rfl rfl
set_option maxRecDepth 40000 in
theorem zw28 : (Jvm.Cond.code ({ cls := "TowerFields$Line", name := "<init>", desc := "()V" } : Jvm.MethodName) prog_3_method_1_code (1 : Nat) (Option.none : Option Jvm.ClassFile.FieldType)) ∈ wsG := zG 76 rfl rfl
set_option maxRecDepth 40000 in
theorem zw29 : (Jvm.Cond.methodLink "TowerFields$Line" (3 : Nat) ({ cls := "java/lang/Object", name := "<init>", desc := "()V" } : Jvm.MethodName)) ∈ wsG := zG 77 rfl rfl
set_option maxRecDepth 40000 in
theorem zw30 : (Jvm.Cond.fieldLink "TowerFields$Line" (9 : Nat) "TowerFields$Line" "numbers" "[I") ∈ wsG := zG 78 rfl rfl
set_option maxRecDepth 40000 in
theorem zw31 : (Jvm.Cond.fieldLink "TowerFields$Line" (15 : Nat) "TowerFields$Line" "degree" "I") ∈ wsG := zG 79 rfl rfl
set_option maxRecDepth 40000 in
theorem zw39 : (Jvm.Cond.arrayClass Jvm.ClassFile.FieldType.int) ∈ wsG := zG 87 rfl rfl
set_option maxRecDepth 40000 in
theorem zw40 : (Jvm.Cond.classLink "TowerFields" (30 : Nat) "TowerFields$Poly") ∈ wsG := zG 88 rfl rfl
set_option maxRecDepth 40000 in
theorem zw41 : (Jvm.Cond.instantiable "TowerFields$Poly" (1 : Nat)) ∈ wsG := zG 89 rfl rfl
set_option maxRecDepth 40000 in
theorem zw42 : (Jvm.Cond.methodLink "TowerFields" (32 : Nat) ({ cls := "TowerFields$Poly", name := "<init>", desc := "()V" } : Jvm.MethodName)) ∈ wsG := zG 90 rfl rfl
set_option maxRecDepth 40000 in
theorem zw43 : (Jvm.Cond.instanceMethod ({ cls := "TowerFields$Poly", name := "<init>", desc := "()V" } : Jvm.MethodName)) ∈ wsG := zG 91 rfl rfl
set_option maxRecDepth 40000 in
theorem zw44 : (Jvm.Cond.code ({ cls := "TowerFields$Poly", name := "<init>", desc := "()V" } : Jvm.MethodName) prog_4_method_1_code (2 : Nat) (Option.none : Option Jvm.ClassFile.FieldType)) ∈ wsG := zG 92 rfl rfl
set_option maxRecDepth 40000 in
theorem zw45 : (Jvm.Cond.methodLink "TowerFields$Poly" (3 : Nat) ({ cls := "java/lang/Object", name := "<init>", desc := "()V" } : Jvm.MethodName)) ∈ wsG := zG 93 rfl rfl
set_option maxRecDepth 40000 in
theorem zw46 : (Jvm.Cond.classLink "TowerFields$Poly" (9 : Nat) "TowerFields$Line") ∈ wsG := zG 94 rfl rfl
set_option maxRecDepth 40000 in
theorem zw49 : (Jvm.Cond.fieldLink "TowerFields$Poly" (11 : Nat) "TowerFields$Poly" "rows" "[LTowerFields$Line;") ∈ wsG := zG 97 rfl rfl
set_option maxRecDepth 40000 in
theorem zw53 : (Jvm.Cond.classLink "TowerFields" (61 : Nat) "TowerFields$Divisor") ∈ wsG := zG 101 rfl rfl
set_option maxRecDepth 40000 in
theorem zw54 : (Jvm.Cond.instantiable "TowerFields$Divisor" (15 : Nat)) ∈ wsG := zG 102 rfl rfl
set_option maxRecDepth 40000 in
theorem zw56 : (Jvm.Cond.instanceMethod ({ cls := "TowerFields$Divisor", name := "<init>", desc := "()V" } : Jvm.MethodName)) ∈ wsG := zG 104 rfl rfl
set_option maxRecDepth 40000 in
theorem zw57 : (Jvm.Cond.code ({ cls := "TowerFields$Divisor", name := "<init>", desc := "()V" } : Jvm.MethodName) prog_2_method_1_code (1 : Nat) (Option.none : Option Jvm.ClassFile.FieldType)) ∈ wsG := zG 105 rfl rfl
set_option maxRecDepth 40000 in
theorem zw58 : (Jvm.Cond.methodLink "TowerFields$Divisor" (3 : Nat) ({ cls := "java/lang/Object", name := "<init>", desc := "()V" } : Jvm.MethodName)) ∈ wsG := zG 106 rfl rfl
set_option maxRecDepth 40000 in
theorem zw59 : (Jvm.Cond.classLink "TowerFields$Divisor" (9 : Nat) "TowerFields$Poly") ∈ wsG := zG 107 rfl rfl
set_option maxRecDepth 40000 in
theorem zw60 : (Jvm.Cond.methodLink "TowerFields$Divisor" (11 : Nat) ({ cls := "TowerFields$Poly", name := "<init>", desc := "()V" } : Jvm.MethodName)) ∈ wsG := zG 108 rfl rfl
set_option maxRecDepth 40000 in
theorem zw61 : (Jvm.Cond.classLink "TowerFields$Divisor" (30 : Nat) "TowerFields$Line") ∈ wsG := zG 109 rfl rfl
set_option maxRecDepth 40000 in
theorem zw63 : (Jvm.Cond.fieldLink "TowerFields$Divisor" (12 : Nat) "TowerFields$Divisor" "found" "LTowerFields$Poly;") ∈ wsG := zG 111 rfl rfl
set_option maxRecDepth 40000 in
theorem zw64 : (Jvm.Cond.fieldLink "TowerFields" (169 : Nat) "TowerFields$Divisor" "found" "LTowerFields$Poly;") ∈ wsG := zG 112 rfl rfl
set_option maxRecDepth 40000 in
theorem zw65 : (Jvm.Cond.fieldLink "TowerFields$Divisor" (18 : Nat) "TowerFields$Divisor" "firstRest" "LTowerFields$Poly;") ∈ wsG := zG 113 rfl rfl
set_option maxRecDepth 40000 in
theorem zw66 : (Jvm.Cond.fieldLink "TowerFields" (193 : Nat) "TowerFields$Divisor" "firstRest" "LTowerFields$Poly;") ∈ wsG := zG 114 rfl rfl
set_option maxRecDepth 40000 in
theorem zw67 : (Jvm.Cond.fieldLink "TowerFields$Divisor" (21 : Nat) "TowerFields$Divisor" "secondRest" "LTowerFields$Poly;") ∈ wsG := zG 115 rfl rfl
set_option maxRecDepth 40000 in
theorem zw68 : (Jvm.Cond.fieldLink "TowerFields" (196 : Nat) "TowerFields$Divisor" "secondRest" "LTowerFields$Poly;") ∈ wsG := zG 116 rfl rfl
set_option maxRecDepth 40000 in
theorem zw69 : (Jvm.Cond.fieldLink "TowerFields$Divisor" (24 : Nat) "TowerFields$Divisor" "pieced" "LTowerFields$Poly;") ∈ wsG := zG 117 rfl rfl
set_option maxRecDepth 40000 in
theorem zw70 : (Jvm.Cond.fieldLink "TowerFields$Divisor" (27 : Nat) "TowerFields$Divisor" "remains" "LTowerFields$Poly;") ∈ wsG := zG 118 rfl rfl
set_option maxRecDepth 40000 in
theorem zw71 : (Jvm.Cond.fieldLink "TowerFields$Divisor" (33 : Nat) "TowerFields$Divisor" "content" "LTowerFields$Line;") ∈ wsG := zG 119 rfl rfl
set_option maxRecDepth 40000 in
theorem zw72 : (Jvm.Cond.fieldLink "TowerFields$Divisor" (37 : Nat) "TowerFields$Divisor" "firstContent" "LTowerFields$Line;") ∈ wsG := zG 120 rfl rfl
set_option maxRecDepth 40000 in
theorem zw73 : (Jvm.Cond.fieldLink "TowerFields$Divisor" (40 : Nat) "TowerFields$Divisor" "secondContent" "LTowerFields$Line;") ∈ wsG := zG 121 rfl rfl
set_option maxRecDepth 40000 in
theorem zw74 : (Jvm.Cond.fieldLink "TowerFields$Divisor" (43 : Nat) "TowerFields$Divisor" "piecedContent" "LTowerFields$Line;") ∈ wsG := zG 122 rfl rfl
set_option maxRecDepth 40000 in
theorem zw75 : (Jvm.Cond.fieldLink "TowerFields$Divisor" (46 : Nat) "TowerFields$Divisor" "lead" "LTowerFields$Line;") ∈ wsG := zG 123 rfl rfl
set_option maxRecDepth 40000 in
theorem zw76 : (Jvm.Cond.fieldLink "TowerFields$Divisor" (49 : Nat) "TowerFields$Divisor" "nodes" "LTowerFields$Line;") ∈ wsG := zG 124 rfl rfl
set_option maxRecDepth 40000 in
theorem zw77 : (Jvm.Cond.fieldLink "TowerFields$Divisor" (52 : Nat) "TowerFields$Divisor" "image" "LTowerFields$Line;") ∈ wsG := zG 125 rfl rfl
set_option maxRecDepth 40000 in
theorem zw78 : (Jvm.Cond.fieldLink "TowerFields$Divisor" (55 : Nat) "TowerFields$Divisor" "spare" "LTowerFields$Line;") ∈ wsG := zG 126 rfl rfl
set_option maxRecDepth 40000 in
theorem zw79 : (Jvm.Cond.fieldLink "TowerFields$Divisor" (58 : Nat) "TowerFields$Divisor" "quotient" "LTowerFields$Line;") ∈ wsG := zG 127 rfl rfl
set_option maxRecDepth 40000 in
theorem zw80 : (Jvm.Cond.fieldLink "TowerFields$Divisor" (61 : Nat) "TowerFields$Divisor" "otherLine" "LTowerFields$Line;") ∈ wsG := zG 128 rfl rfl
set_option maxRecDepth 40000 in
theorem zw112 : (Jvm.Cond.methodLink "TowerFields" (68 : Nat) ({ cls := "TowerFields$Poly", name := "row", desc := "(I)LTowerFields$Line;" } : Jvm.MethodName)) ∈ wsG := zG 160 rfl rfl
set_option maxRecDepth 40000 in
theorem zw113 : (Jvm.Cond.instanceMethod ({ cls := "TowerFields$Poly", name := "row", desc := "(I)LTowerFields$Line;" } : Jvm.MethodName)) ∈ wsG := zG 161 rfl rfl
set_option maxRecDepth 40000 in
theorem zw114 : (Jvm.Cond.selects "TowerFields$Poly" ({ cls := "TowerFields$Poly", name := "row", desc := "(I)LTowerFields$Line;" } : Jvm.MethodName) ({ cls := "TowerFields$Poly", name := "row", desc := "(I)LTowerFields$Line;" } : Jvm.MethodName)) ∈ wsG := zG 162 rfl rfl
set_option maxRecDepth 40000 in
theorem zw115 : (Jvm.Cond.code ({ cls := "TowerFields$Poly", name := "row", desc := "(I)LTowerFields$Line;" } : Jvm.MethodName) prog_4_method_2_code (2 : Nat) (Option.some (Jvm.ClassFile.FieldType.object "TowerFields$Line"))) ∈ wsG := zG 163 rfl rfl
set_option maxRecDepth 40000 in
theorem zw116 : (Jvm.Cond.methodLink "TowerFields" (72 : Nat) ({ cls := "TowerFields$Line", name := "put", desc := "(II)V" } : Jvm.MethodName)) ∈ wsG := zG 164 rfl rfl
set_option maxRecDepth 40000 in
theorem zw117 : (Jvm.Cond.instanceMethod ({ cls := "TowerFields$Line", name := "put", desc := "(II)V" } : Jvm.MethodName)) ∈ wsG := zG 165 rfl rfl
set_option maxRecDepth 40000 in
theorem zw118 : (Jvm.Cond.selects "TowerFields$Line" ({ cls := "TowerFields$Line", name := "put", desc := "(II)V" } : Jvm.MethodName) ({ cls := "TowerFields$Line", name := "put", desc := "(II)V" } : Jvm.MethodName)) ∈ wsG := zG 166 rfl rfl
set_option maxRecDepth 40000 in
theorem zw119 : (Jvm.Cond.code ({ cls := "TowerFields$Line", name := "put", desc := "(II)V" } : Jvm.MethodName) prog_3_method_3_code (4 : Nat) (Option.none : Option Jvm.ClassFile.FieldType)) ∈ wsG := zG 167 rfl rfl
set_option maxRecDepth 40000 in
theorem zw120 : (Jvm.Cond.fieldLink "TowerFields" (9 : Nat) "TowerFields" "numbers" "[I") ∈ wsG := zG 168 rfl rfl
set_option maxRecDepth 40000 in
theorem zw121 : (Jvm.Cond.fieldLink "TowerFields" (13 : Nat) "TowerFields" "made" "I") ∈ wsG := zG 169 rfl rfl
set_option maxRecDepth 40000 in
theorem zw122 : (Jvm.Cond.fieldLink "TowerFields" (17 : Nat) "TowerFields" "letterKind" "I") ∈ wsG := zG 170 rfl rfl
set_option maxRecDepth 40000 in
theorem zw123 : (Jvm.Cond.fieldLink "TowerFields" (23 : Nat) "TowerFields" "slopeAbove" "LTowerFields$Line;") ∈ wsG := zG 171 rfl rfl
set_option maxRecDepth 40000 in
theorem zw124 : (Jvm.Cond.fieldLink "TowerFields" (27 : Nat) "TowerFields" "slopeBelow" "LTowerFields$Line;") ∈ wsG := zG 172 rfl rfl
set_option maxRecDepth 40000 in
theorem zw125 : (Jvm.Cond.fieldLink "TowerFields" (33 : Nat) "TowerFields" "firstAbove" "LTowerFields$Poly;") ∈ wsG := zG 173 rfl rfl
set_option maxRecDepth 40000 in
theorem zw126 : (Jvm.Cond.fieldLink "TowerFields" (37 : Nat) "TowerFields" "firstBelow" "LTowerFields$Poly;") ∈ wsG := zG 174 rfl rfl
set_option maxRecDepth 40000 in
theorem zw127 : (Jvm.Cond.fieldLink "TowerFields" (40 : Nat) "TowerFields" "secondAbove" "LTowerFields$Poly;") ∈ wsG := zG 175 rfl rfl
set_option maxRecDepth 40000 in
theorem zw128 : (Jvm.Cond.fieldLink "TowerFields" (43 : Nat) "TowerFields" "secondBelow" "LTowerFields$Poly;") ∈ wsG := zG 176 rfl rfl
set_option maxRecDepth 40000 in
theorem zw129 : (Jvm.Cond.fieldLink "TowerFields" (46 : Nat) "TowerFields" "slopeFirst" "LTowerFields$Poly;") ∈ wsG := zG 177 rfl rfl
set_option maxRecDepth 40000 in
theorem zw130 : (Jvm.Cond.fieldLink "TowerFields" (49 : Nat) "TowerFields" "slopeSecond" "LTowerFields$Poly;") ∈ wsG := zG 178 rfl rfl
set_option maxRecDepth 40000 in
theorem zw131 : (Jvm.Cond.fieldLink "TowerFields" (52 : Nat) "TowerFields" "rawAbove" "LTowerFields$Poly;") ∈ wsG := zG 179 rfl rfl
set_option maxRecDepth 40000 in
theorem zw132 : (Jvm.Cond.fieldLink "TowerFields" (55 : Nat) "TowerFields" "rawBelow" "LTowerFields$Poly;") ∈ wsG := zG 180 rfl rfl
set_option maxRecDepth 40000 in
theorem zw133 : (Jvm.Cond.fieldLink "TowerFields" (58 : Nat) "TowerFields" "one" "LTowerFields$Poly;") ∈ wsG := zG 181 rfl rfl
set_option maxRecDepth 40000 in
theorem zw134 : (Jvm.Cond.fieldLink "TowerFields" (64 : Nat) "TowerFields" "divisor" "LTowerFields$Divisor;") ∈ wsG := zG 182 rfl rfl
set_option maxRecDepth 40000 in
theorem zw166 : (Jvm.Cond.methodLink "TowerFieldsLaw" (136 : Nat) ({ cls := "TowerFields", name := "count", desc := "()I" } : Jvm.MethodName)) ∈ wsG := zG 214 rfl rfl
set_option maxRecDepth 40000 in
theorem zw167 : (Jvm.Cond.instanceMethod ({ cls := "TowerFields", name := "count", desc := "()I" } : Jvm.MethodName)) ∈ wsG := zG 215 rfl rfl
set_option maxRecDepth 40000 in
theorem zw168 : (Jvm.Cond.selects "TowerFields" ({ cls := "TowerFields", name := "count", desc := "()I" } : Jvm.MethodName) ({ cls := "TowerFields", name := "count", desc := "()I" } : Jvm.MethodName)) ∈ wsG := zG 216 rfl rfl
set_option maxRecDepth 40000 in
theorem zw169 : (Jvm.Cond.code ({ cls := "TowerFields", name := "count", desc := "()I" } : Jvm.MethodName) prog_1_method_18_code (1 : Nat) (Option.some Jvm.ClassFile.FieldType.int)) ∈ wsG := zG 217 rfl rfl
set_option maxRecDepth 40000 in
theorem zw170 : (Jvm.Cond.methodLink "TowerFieldsLaw" (78 : Nat) ({ cls := "TowerFieldsLaw", name := "number", desc := "(LTowerFields;JJ[J)I" } : Jvm.MethodName)) ∈ wsG := zG 218 rfl rfl
set_option maxRecDepth 40000 in
theorem zw171 : (Jvm.Cond.static ({ cls := "TowerFieldsLaw", name := "number", desc := "(LTowerFields;JJ[J)I" } : Jvm.MethodName)) ∈ wsG := zG 219 rfl rfl
set_option maxRecDepth 40000 in
theorem zw173 : (Jvm.Cond.classLink "TowerFieldsLaw" (13 : Nat) "java/lang/IllegalStateException") ∈ wsG := zG 221 rfl rfl
set_option maxRecDepth 40000 in
theorem zw174 : (Jvm.Cond.classLink "TowerFieldsLaw" (15 : Nat) "java/lang/ArithmeticException") ∈ wsG := zG 222 rfl rfl
set_option maxRecDepth 40000 in
theorem zw175 : (Jvm.Cond.instantiable "java/lang/ArithmeticException" (6 : Nat)) ∈ wsG := zG 223 rfl rfl
set_option maxRecDepth 40000 in
theorem zw176 : (Jvm.Cond.instanceMethod ({ cls := "java/lang/ArithmeticException", name := "<init>", desc := "(Ljava/lang/String;)V" } : Jvm.MethodName)) ∈ wsG := zG 224 rfl rfl
set_option maxRecDepth 40000 in
theorem zw177 : (Jvm.Cond.code ({ cls := "java/lang/ArithmeticException", name := "<init>", desc := "(Ljava/lang/String;)V" } : Jvm.MethodName) prog_7_method_2_code (2 : Nat) (Option.none : Option Jvm.ClassFile.FieldType)) ∈ wsG := zG 225 rfl rfl
set_option maxRecDepth 40000 in
theorem zw178 : (Jvm.Cond.methodLink "java/lang/ArithmeticException" (7 : Nat) ({ cls := "java/lang/RuntimeException", name := "<init>", desc := "(Ljava/lang/String;)V" } : Jvm.MethodName)) ∈ wsG := zG 226 rfl rfl
set_option maxRecDepth 40000 in
theorem zw179 : (Jvm.Cond.instanceMethod ({ cls := "java/lang/RuntimeException", name := "<init>", desc := "(Ljava/lang/String;)V" } : Jvm.MethodName)) ∈ wsG := zG 227 rfl rfl
set_option maxRecDepth 40000 in
theorem zw180 : (Jvm.Cond.code ({ cls := "java/lang/RuntimeException", name := "<init>", desc := "(Ljava/lang/String;)V" } : Jvm.MethodName) prog_14_method_2_code (2 : Nat) (Option.none : Option Jvm.ClassFile.FieldType)) ∈ wsG := zG 228 rfl rfl
set_option maxRecDepth 40000 in
theorem zw181 : (Jvm.Cond.methodLink "java/lang/RuntimeException" (7 : Nat) ({ cls := "java/lang/Exception", name := "<init>", desc := "(Ljava/lang/String;)V" } : Jvm.MethodName)) ∈ wsG := zG 229 rfl rfl
set_option maxRecDepth 40000 in
theorem zw182 : (Jvm.Cond.instanceMethod ({ cls := "java/lang/Exception", name := "<init>", desc := "(Ljava/lang/String;)V" } : Jvm.MethodName)) ∈ wsG := zG 230 rfl rfl
set_option maxRecDepth 40000 in
theorem zw183 : (Jvm.Cond.code ({ cls := "java/lang/Exception", name := "<init>", desc := "(Ljava/lang/String;)V" } : Jvm.MethodName) prog_9_method_2_code (2 : Nat) (Option.none : Option Jvm.ClassFile.FieldType)) ∈ wsG := zG 231 rfl rfl
set_option maxRecDepth 40000 in
theorem zw184 : (Jvm.Cond.methodLink "java/lang/Exception" (7 : Nat) ({ cls := "java/lang/Throwable", name := "<init>", desc := "(Ljava/lang/String;)V" } : Jvm.MethodName)) ∈ wsG := zG 232 rfl rfl
set_option maxRecDepth 40000 in
theorem zw185 : (Jvm.Cond.instanceMethod ({ cls := "java/lang/Throwable", name := "<init>", desc := "(Ljava/lang/String;)V" } : Jvm.MethodName)) ∈ wsG := zG 233 rfl rfl
set_option maxRecDepth 40000 in
theorem zw186 : (Jvm.Cond.code ({ cls := "java/lang/Throwable", name := "<init>", desc := "(Ljava/lang/String;)V" } : Jvm.MethodName) prog_16_method_2_code (2 : Nat) (Option.none : Option Jvm.ClassFile.FieldType)) ∈ wsG := zG 234 rfl rfl
set_option maxRecDepth 40000 in
theorem zw187 : (Jvm.Cond.methodLink "java/lang/Throwable" (1 : Nat) ({ cls := "java/lang/Object", name := "<init>", desc := "()V" } : Jvm.MethodName)) ∈ wsG := zG 235 rfl rfl
set_option maxRecDepth 40000 in
theorem zw188 : (Jvm.Cond.fieldLink "java/lang/Throwable" (13 : Nat) "java/lang/Throwable" "UNASSIGNED_STACK" "[Ljava/lang/StackTraceElement;") ∈ wsG := zG 236 rfl rfl
set_option maxRecDepth 40000 in
theorem zw190 : (Jvm.Cond.fieldLink "java/lang/Throwable" (20 : Nat) "java/lang/Throwable" "SUPPRESSED_SENTINEL" "Ljava/util/List;") ∈ wsG := zG 238 rfl rfl
set_option maxRecDepth 40000 in
theorem zw192 : (Jvm.Cond.methodLink "java/lang/Throwable" (27 : Nat) ({ cls := "java/lang/Throwable", name := "fillInStackTrace", desc := "()Ljava/lang/Throwable;" } : Jvm.MethodName)) ∈ wsG := zG 240 rfl rfl
set_option maxRecDepth 40000 in
theorem zw193 : (Jvm.Cond.instanceMethod ({ cls := "java/lang/Throwable", name := "fillInStackTrace", desc := "()Ljava/lang/Throwable;" } : Jvm.MethodName)) ∈ wsG := zG 241 rfl rfl
set_option maxRecDepth 40000 in
theorem zw195 : (Jvm.Cond.selects "java/lang/ArithmeticException" ({ cls := "java/lang/Throwable", name := "fillInStackTrace", desc := "()Ljava/lang/Throwable;" } : Jvm.MethodName) ({ cls := "java/lang/Throwable", name := "fillInStackTrace", desc := "()Ljava/lang/Throwable;" } : Jvm.MethodName)) ∈ wsG := zG 243 rfl rfl
set_option maxRecDepth 40000 in
theorem zw196 : (Jvm.Cond.selects "java/lang/ArrayIndexOutOfBoundsException" ({ cls := "java/lang/Throwable", name := "fillInStackTrace", desc := "()Ljava/lang/Throwable;" } : Jvm.MethodName) ({ cls := "java/lang/Throwable", name := "fillInStackTrace", desc := "()Ljava/lang/Throwable;" } : Jvm.MethodName)) ∈ wsG := zG 244 rfl rfl
set_option maxRecDepth 40000 in
theorem zw197 : (Jvm.Cond.selects "java/lang/IllegalArgumentException" ({ cls := "java/lang/Throwable", name := "fillInStackTrace", desc := "()Ljava/lang/Throwable;" } : Jvm.MethodName) ({ cls := "java/lang/Throwable", name := "fillInStackTrace", desc := "()Ljava/lang/Throwable;" } : Jvm.MethodName)) ∈ wsG := zG 245 rfl rfl
set_option maxRecDepth 40000 in
theorem zw198 : (Jvm.Cond.selects "java/lang/IllegalStateException" ({ cls := "java/lang/Throwable", name := "fillInStackTrace", desc := "()Ljava/lang/Throwable;" } : Jvm.MethodName) ({ cls := "java/lang/Throwable", name := "fillInStackTrace", desc := "()Ljava/lang/Throwable;" } : Jvm.MethodName)) ∈ wsG := zG 246 rfl rfl
set_option maxRecDepth 40000 in
theorem zw199 : (Jvm.Cond.selects "java/lang/IndexOutOfBoundsException" ({ cls := "java/lang/Throwable", name := "fillInStackTrace", desc := "()Ljava/lang/Throwable;" } : Jvm.MethodName) ({ cls := "java/lang/Throwable", name := "fillInStackTrace", desc := "()Ljava/lang/Throwable;" } : Jvm.MethodName)) ∈ wsG := zG 247 rfl rfl
set_option maxRecDepth 40000 in
theorem zw201 : (Jvm.Cond.methodLink "java/lang/Throwable" (202 : Nat) ({ cls := "java/lang/Throwable", name := "fillInStackTrace", desc := "(I)Ljava/lang/Throwable;" } : Jvm.MethodName)) ∈ wsG := zG 249 rfl rfl
set_option maxRecDepth 40000 in
theorem zw203 : (Jvm.Cond.instanceMethod ({ cls := "java/lang/Throwable", name := "fillInStackTrace", desc := "(I)Ljava/lang/Throwable;" } : Jvm.MethodName)) ∈ wsG := zG 251 rfl rfl
set_option maxRecDepth 40000 in
theorem zw204 : (Jvm.Cond.instantiable "java/lang/Throwable" (6 : Nat)) ∈ wsG := zG 252 rfl rfl
set_option maxRecDepth 40000 in
theorem zw206 : (Jvm.Cond.fieldLink "java/lang/Throwable" (198 : Nat) "java/lang/Throwable" "backtrace" "Ljava/lang/Object;") ∈ wsG := zG 254 rfl rfl
set_option maxRecDepth 40000 in
theorem zw207 : (Jvm.Cond.fieldLink "java/lang/Throwable" (31 : Nat) "java/lang/Throwable" "detailMessage" "Ljava/lang/String;") ∈ wsG := zG 255 rfl rfl
set_option maxRecDepth 40000 in
theorem zw208 : (Jvm.Cond.fieldLink "java/lang/Throwable" (7 : Nat) "java/lang/Throwable" "cause" "Ljava/lang/Throwable;") ∈ wsG := zG 256 rfl rfl
set_option maxRecDepth 40000 in
theorem zw209 : (Jvm.Cond.fieldLink "java/lang/Throwable" (17 : Nat) "java/lang/Throwable" "stackTrace" "[Ljava/lang/StackTraceElement;") ∈ wsG := zG 257 rfl rfl
set_option maxRecDepth 40000 in
theorem zw210 : (Jvm.Cond.fieldLink "java/lang/Throwable" (24 : Nat) "java/lang/Throwable" "suppressedExceptions" "Ljava/util/List;") ∈ wsG := zG 258 rfl rfl
set_option maxRecDepth 40000 in
theorem zw231 : (Jvm.Cond.selects "java/lang/ArithmeticException" ({ cls := "java/lang/Throwable", name := "fillInStackTrace", desc := "(I)Ljava/lang/Throwable;" } : Jvm.MethodName) ({ cls := "java/lang/Throwable", name := "fillInStackTrace", desc := "(I)Ljava/lang/Throwable;" } : Jvm.MethodName)) ∈ wsG := zG 279 rfl rfl
set_option maxRecDepth 40000 in
theorem zw237 : (Jvm.Cond.fieldLink "java/lang/Throwable" (198 : Nat) "java/lang/Throwable" "backtrace" "Ljava/lang/Object;") ∈ wsG := zG 285 rfl rfl
set_option maxRecDepth 40000 in
theorem zw239 : (Jvm.Cond.instanceMethod ({ cls := "java/lang/Throwable", name := "<init>", desc := "()V" } : Jvm.MethodName)) ∈ wsG := zG 287 rfl rfl
set_option maxRecDepth 40000 in
theorem zw240 : (Jvm.Cond.code ({ cls := "java/lang/Throwable", name := "<init>", desc := "()V" } : Jvm.MethodName) prog_16_method_1_code (1 : Nat) (Option.none : Option Jvm.ClassFile.FieldType)) ∈ wsG := zG 288 rfl rfl
set_option maxRecDepth 40000 in
theorem zw241 : (Jvm.Cond.instantiable "java/lang/String" (4 : Nat)) ∈ wsG := zG 289 rfl rfl
set_option maxRecDepth 40000 in
theorem zw242 : (Jvm.Cond.arrayClass Jvm.ClassFile.FieldType.byte) ∈ wsG := zG 290 rfl rfl
set_option maxRecDepth 40000 in
theorem zw247 : (Jvm.Cond.methodLink "TowerFieldsLaw" (7 : Nat) ({ cls := "TowerFields", name := "number", desc := "(JJ)I" } : Jvm.MethodName)) ∈ wsG := zG 295 rfl rfl
set_option maxRecDepth 40000 in
theorem zw248 : (Jvm.Cond.instanceMethod ({ cls := "TowerFields", name := "number", desc := "(JJ)I" } : Jvm.MethodName)) ∈ wsG := zG 296 rfl rfl
set_option maxRecDepth 40000 in
theorem zw249 : (Jvm.Cond.selects "TowerFields" ({ cls := "TowerFields", name := "number", desc := "(JJ)I" } : Jvm.MethodName) ({ cls := "TowerFields", name := "number", desc := "(JJ)I" } : Jvm.MethodName)) ∈ wsG := zG 297 rfl rfl
set_option maxRecDepth 40000 in
theorem zw250 : (Jvm.Cond.code ({ cls := "TowerFields", name := "number", desc := "(JJ)I" } : Jvm.MethodName) prog_1_method_2_code (6 : Nat) (Option.some Jvm.ClassFile.FieldType.int)) ∈ wsG := zG 298 rfl rfl
set_option maxRecDepth 40000 in
theorem zw251 : (Jvm.Cond.methodLink "TowerFields" (76 : Nat) ({ cls := "TowerFields", name := "requireRoom", desc := "()V" } : Jvm.MethodName)) ∈ wsG := zG 299 rfl rfl
set_option maxRecDepth 40000 in
theorem zw253 : (Jvm.Cond.instanceMethod ({ cls := "TowerFields", name := "requireRoom", desc := "()V" } : Jvm.MethodName)) ∈ wsG := zG 301 rfl rfl
set_option maxRecDepth 40000 in
theorem zw254 : (Jvm.Cond.code ({ cls := "TowerFields", name := "requireRoom", desc := "()V" } : Jvm.MethodName) prog_1_method_20_code (1 : Nat) (Option.none : Option Jvm.ClassFile.FieldType)) ∈ wsG := zG 302 rfl rfl
set_option maxRecDepth 40000 in
theorem zw255 : (Jvm.Cond.classLink "TowerFields" (188 : Nat) "java/lang/IllegalStateException") ∈ wsG := zG 303 rfl rfl
set_option maxRecDepth 40000 in
theorem zw256 : (Jvm.Cond.instantiable "java/lang/IllegalStateException" (6 : Nat)) ∈ wsG := zG 304 rfl rfl
set_option maxRecDepth 40000 in
theorem zw258 : (Jvm.Cond.selects "java/lang/IllegalStateException" ({ cls := "java/lang/Throwable", name := "fillInStackTrace", desc := "(I)Ljava/lang/Throwable;" } : Jvm.MethodName) ({ cls := "java/lang/Throwable", name := "fillInStackTrace", desc := "(I)Ljava/lang/Throwable;" } : Jvm.MethodName)) ∈ wsG := zG 306 rfl rfl
set_option maxRecDepth 40000 in
theorem zw265 : (Jvm.Cond.methodLink "TowerFields" (192 : Nat) ({ cls := "java/lang/IllegalStateException", name := "<init>", desc := "(Ljava/lang/String;)V" } : Jvm.MethodName)) ∈ wsG := zG 313 rfl rfl
set_option maxRecDepth 40000 in
theorem zw266 : (Jvm.Cond.instanceMethod ({ cls := "java/lang/IllegalStateException", name := "<init>", desc := "(Ljava/lang/String;)V" } : Jvm.MethodName)) ∈ wsG := zG 314 rfl rfl
set_option maxRecDepth 40000 in
theorem zw267 : (Jvm.Cond.code ({ cls := "java/lang/IllegalStateException", name := "<init>", desc := "(Ljava/lang/String;)V" } : Jvm.MethodName) prog_11_method_2_code (2 : Nat) (Option.none : Option Jvm.ClassFile.FieldType)) ∈ wsG := zG 315 rfl rfl
set_option maxRecDepth 40000 in
theorem zw268 : (Jvm.Cond.methodLink "java/lang/IllegalStateException" (7 : Nat) ({ cls := "java/lang/RuntimeException", name := "<init>", desc := "(Ljava/lang/String;)V" } : Jvm.MethodName)) ∈ wsG := zG 316 rfl rfl
set_option maxRecDepth 40000 in
theorem zw271 : (Jvm.Cond.methodLink "TowerFields" (79 : Nat) ({ cls := "TowerFields", name := "residue", desc := "(J)I" } : Jvm.MethodName)) ∈ wsG := zG 319 rfl rfl
set_option maxRecDepth 40000 in
theorem zw272 : (Jvm.Cond.static ({ cls := "TowerFields", name := "residue", desc := "(J)I" } : Jvm.MethodName)) ∈ wsG := zG 320 rfl rfl
set_option maxRecDepth 40000 in
theorem zw273 : (Jvm.Cond.code ({ cls := "TowerFields", name := "residue", desc := "(J)I" } : Jvm.MethodName) prog_1_method_38_code (4 : Nat) (Option.some Jvm.ClassFile.FieldType.int)) ∈ wsG := zG 321 rfl rfl
set_option maxRecDepth 40000 in
theorem zw274 : (Jvm.Cond.constantLong "TowerFields" (243 : Nat) (32003 : Int64)) ∈ wsG := zG 322 rfl rfl
set_option maxRecDepth 40000 in
theorem zw275 : (Jvm.Cond.classLink "TowerFields" (83 : Nat) "java/lang/ArithmeticException") ∈ wsG := zG 323 rfl rfl
set_option maxRecDepth 40000 in
theorem zw277 : (Jvm.Cond.methodLink "TowerFields" (87 : Nat) ({ cls := "java/lang/ArithmeticException", name := "<init>", desc := "(Ljava/lang/String;)V" } : Jvm.MethodName)) ∈ wsG := zG 325 rfl rfl
set_option maxRecDepth 40000 in
theorem zw278 : (Jvm.Cond.methodLink "TowerFields" (90 : Nat) ({ cls := "TowerFields", name := "inverse", desc := "(I)I" } : Jvm.MethodName)) ∈ wsG := zG 326 rfl rfl
set_option maxRecDepth 40000 in
theorem zw279 : (Jvm.Cond.static ({ cls := "TowerFields", name := "inverse", desc := "(I)I" } : Jvm.MethodName)) ∈ wsG := zG 327 rfl rfl
set_option maxRecDepth 40000 in
theorem zw280 : (Jvm.Cond.code ({ cls := "TowerFields", name := "inverse", desc := "(I)I" } : Jvm.MethodName) prog_1_method_39_code (4 : Nat) (Option.some Jvm.ClassFile.FieldType.int)) ∈ wsG := zG 328 rfl rfl
set_option maxRecDepth 40000 in
theorem zw281 : (Jvm.Cond.methodLink "TowerFields" (94 : Nat) ({ cls := "TowerFields", name := "keepSingle", desc := "(III)I" } : Jvm.MethodName)) ∈ wsG := zG 329 rfl rfl
set_option maxRecDepth 40000 in
theorem zw283 : (Jvm.Cond.instanceMethod ({ cls := "TowerFields", name := "keepSingle", desc := "(III)I" } : Jvm.MethodName)) ∈ wsG := zG 331 rfl rfl
set_option maxRecDepth 40000 in
theorem zw284 : (Jvm.Cond.code ({ cls := "TowerFields", name := "keepSingle", desc := "(III)I" } : Jvm.MethodName) prog_1_method_27_code (4 : Nat) (Option.some Jvm.ClassFile.FieldType.int)) ∈ wsG := zG 332 rfl rfl
set_option maxRecDepth 40000 in
theorem zw285 : (Jvm.Cond.methodLink "TowerFields" (130 : Nat) ({ cls := "TowerFields$Poly", name := "clear", desc := "()V" } : Jvm.MethodName)) ∈ wsG := zG 333 rfl rfl
set_option maxRecDepth 40000 in
theorem zw286 : (Jvm.Cond.instanceMethod ({ cls := "TowerFields$Poly", name := "clear", desc := "()V" } : Jvm.MethodName)) ∈ wsG := zG 334 rfl rfl
set_option maxRecDepth 40000 in
theorem zw287 : (Jvm.Cond.selects "TowerFields$Poly" ({ cls := "TowerFields$Poly", name := "clear", desc := "()V" } : Jvm.MethodName) ({ cls := "TowerFields$Poly", name := "clear", desc := "()V" } : Jvm.MethodName)) ∈ wsG := zG 335 rfl rfl
set_option maxRecDepth 40000 in
theorem zw288 : (Jvm.Cond.code ({ cls := "TowerFields$Poly", name := "clear", desc := "()V" } : Jvm.MethodName) prog_4_method_3_code (2 : Nat) (Option.none : Option Jvm.ClassFile.FieldType)) ∈ wsG := zG 336 rfl rfl
set_option maxRecDepth 40000 in
theorem zw289 : (Jvm.Cond.methodLink "TowerFields$Poly" (18 : Nat) ({ cls := "TowerFields$Line", name := "clear", desc := "()V" } : Jvm.MethodName)) ∈ wsG := zG 337 rfl rfl
set_option maxRecDepth 40000 in
theorem zw290 : (Jvm.Cond.instanceMethod ({ cls := "TowerFields$Line", name := "clear", desc := "()V" } : Jvm.MethodName)) ∈ wsG := zG 338 rfl rfl
set_option maxRecDepth 40000 in
theorem zw291 : (Jvm.Cond.selects "TowerFields$Line" ({ cls := "TowerFields$Line", name := "clear", desc := "()V" } : Jvm.MethodName) ({ cls := "TowerFields$Line", name := "clear", desc := "()V" } : Jvm.MethodName)) ∈ wsG := zG 339 rfl rfl
set_option maxRecDepth 40000 in
theorem zw292 : (Jvm.Cond.code ({ cls := "TowerFields$Line", name := "clear", desc := "()V" } : Jvm.MethodName) prog_3_method_4_code (2 : Nat) (Option.none : Option Jvm.ClassFile.FieldType)) ∈ wsG := zG 340 rfl rfl
set_option maxRecDepth 40000 in
theorem zw293 : (Jvm.Cond.methodLink "TowerFields" (162 : Nat) ({ cls := "TowerFields", name := "keep", desc := "(LTowerFields$Poly;LTowerFields$Poly;)I" } : Jvm.MethodName)) ∈ wsG := zG 341 rfl rfl
set_option maxRecDepth 40000 in
theorem zw295 : (Jvm.Cond.instanceMethod ({ cls := "TowerFields", name := "keep", desc := "(LTowerFields$Poly;LTowerFields$Poly;)I" } : Jvm.MethodName)) ∈ wsG := zG 343 rfl rfl
set_option maxRecDepth 40000 in
theorem zw296 : (Jvm.Cond.code ({ cls := "TowerFields", name := "keep", desc := "(LTowerFields$Poly;LTowerFields$Poly;)I" } : Jvm.MethodName) prog_1_method_30_code (5 : Nat) (Option.some Jvm.ClassFile.FieldType.int)) ∈ wsG := zG 344 rfl rfl
set_option maxRecDepth 40000 in
theorem zw297 : (Jvm.Cond.methodLink "TowerFields" (175 : Nat) ({ cls := "TowerFields", name := "place", desc := "(IIII)I" } : Jvm.MethodName)) ∈ wsG := zG 345 rfl rfl
set_option maxRecDepth 40000 in
theorem zw298 : (Jvm.Cond.static ({ cls := "TowerFields", name := "place", desc := "(IIII)I" } : Jvm.MethodName)) ∈ wsG := zG 346 rfl rfl
set_option maxRecDepth 40000 in
theorem zw299 : (Jvm.Cond.code ({ cls := "TowerFields", name := "place", desc := "(IIII)I" } : Jvm.MethodName) prog_1_method_21_code (4 : Nat) (Option.some Jvm.ClassFile.FieldType.int)) ∈ wsG := zG 347 rfl rfl
set_option maxRecDepth 40000 in
theorem zw300 : (Jvm.Cond.methodLink "TowerFields" (217 : Nat) ({ cls := "TowerFields$Line", name := "get", desc := "(I)I" } : Jvm.MethodName)) ∈ wsG := zG 348 rfl rfl
set_option maxRecDepth 40000 in
theorem zw301 : (Jvm.Cond.instanceMethod ({ cls := "TowerFields$Line", name := "get", desc := "(I)I" } : Jvm.MethodName)) ∈ wsG := zG 349 rfl rfl
set_option maxRecDepth 40000 in
theorem zw302 : (Jvm.Cond.selects "TowerFields$Line" ({ cls := "TowerFields$Line", name := "get", desc := "(I)I" } : Jvm.MethodName) ({ cls := "TowerFields$Line", name := "get", desc := "(I)I" } : Jvm.MethodName)) ∈ wsG := zG 350 rfl rfl
set_option maxRecDepth 40000 in
theorem zw303 : (Jvm.Cond.code ({ cls := "TowerFields$Line", name := "get", desc := "(I)I" } : Jvm.MethodName) prog_3_method_2_code (2 : Nat) (Option.some Jvm.ClassFile.FieldType.int)) ∈ wsG := zG 351 rfl rfl
set_option maxRecDepth 40000 in
theorem zw304 : (Jvm.Cond.methodLink "TowerFields" (220 : Nat) ({ cls := "TowerFields", name := "store", desc := "(II)V" } : Jvm.MethodName)) ∈ wsG := zG 352 rfl rfl
set_option maxRecDepth 40000 in
theorem zw306 : (Jvm.Cond.instanceMethod ({ cls := "TowerFields", name := "store", desc := "(II)V" } : Jvm.MethodName)) ∈ wsG := zG 354 rfl rfl
set_option maxRecDepth 40000 in
theorem zw307 : (Jvm.Cond.code ({ cls := "TowerFields", name := "store", desc := "(II)V" } : Jvm.MethodName) prog_1_method_23_code (3 : Nat) (Option.none : Option Jvm.ClassFile.FieldType)) ∈ wsG := zG 355 rfl rfl
set_option maxRecDepth 40000 in
theorem zw308 : (Jvm.Cond.methodLink "TowerFieldsLaw" (87 : Nat) ({ cls := "TowerFieldsLaw", name := "base", desc := "(LTowerFields;[J)I" } : Jvm.MethodName)) ∈ wsG := zG 356 rfl rfl
set_option maxRecDepth 40000 in
theorem zw309 : (Jvm.Cond.static ({ cls := "TowerFieldsLaw", name := "base", desc := "(LTowerFields;[J)I" } : Jvm.MethodName)) ∈ wsG := zG 357 rfl rfl
set_option maxRecDepth 40000 in
theorem zw311 : (Jvm.Cond.methodLink "TowerFieldsLaw" (17 : Nat) ({ cls := "TowerFields", name := "base", desc := "()I" } : Jvm.MethodName)) ∈ wsG := zG 359 rfl rfl
set_option maxRecDepth 40000 in
theorem zw312 : (Jvm.Cond.instanceMethod ({ cls := "TowerFields", name := "base", desc := "()I" } : Jvm.MethodName)) ∈ wsG := zG 360 rfl rfl
set_option maxRecDepth 40000 in
theorem zw313 : (Jvm.Cond.selects "TowerFields" ({ cls := "TowerFields", name := "base", desc := "()I" } : Jvm.MethodName) ({ cls := "TowerFields", name := "base", desc := "()I" } : Jvm.MethodName)) ∈ wsG := zG 361 rfl rfl
set_option maxRecDepth 40000 in
theorem zw314 : (Jvm.Cond.code ({ cls := "TowerFields", name := "base", desc := "()I" } : Jvm.MethodName) prog_1_method_3_code (1 : Nat) (Option.some Jvm.ClassFile.FieldType.int)) ∈ wsG := zG 362 rfl rfl
set_option maxRecDepth 40000 in
theorem zw315 : (Jvm.Cond.methodLink "TowerFieldsLaw" (91 : Nat) ({ cls := "TowerFieldsLaw", name := "letter", desc := "(LTowerFields;II[J)I" } : Jvm.MethodName)) ∈ wsG := zG 363 rfl rfl
set_option maxRecDepth 40000 in
theorem zw316 : (Jvm.Cond.static ({ cls := "TowerFieldsLaw", name := "letter", desc := "(LTowerFields;II[J)I" } : Jvm.MethodName)) ∈ wsG := zG 364 rfl rfl
set_option maxRecDepth 40000 in
theorem zw318 : (Jvm.Cond.classLink "TowerFieldsLaw" (25 : Nat) "java/lang/IndexOutOfBoundsException") ∈ wsG := zG 366 rfl rfl
set_option maxRecDepth 40000 in
theorem zw319 : (Jvm.Cond.instantiable "java/lang/ArrayIndexOutOfBoundsException" (6 : Nat)) ∈ wsG := zG 367 rfl rfl
set_option maxRecDepth 40000 in
theorem zw320 : (Jvm.Cond.instanceMethod ({ cls := "java/lang/ArrayIndexOutOfBoundsException", name := "<init>", desc := "(Ljava/lang/String;)V" } : Jvm.MethodName)) ∈ wsG := zG 368 rfl rfl
set_option maxRecDepth 40000 in
theorem zw321 : (Jvm.Cond.code ({ cls := "java/lang/ArrayIndexOutOfBoundsException", name := "<init>", desc := "(Ljava/lang/String;)V" } : Jvm.MethodName) prog_8_method_2_code (2 : Nat) (Option.none : Option Jvm.ClassFile.FieldType)) ∈ wsG := zG 369 rfl rfl
set_option maxRecDepth 40000 in
theorem zw322 : (Jvm.Cond.methodLink "java/lang/ArrayIndexOutOfBoundsException" (7 : Nat) ({ cls := "java/lang/IndexOutOfBoundsException", name := "<init>", desc := "(Ljava/lang/String;)V" } : Jvm.MethodName)) ∈ wsG := zG 370 rfl rfl
set_option maxRecDepth 40000 in
theorem zw323 : (Jvm.Cond.instanceMethod ({ cls := "java/lang/IndexOutOfBoundsException", name := "<init>", desc := "(Ljava/lang/String;)V" } : Jvm.MethodName)) ∈ wsG := zG 371 rfl rfl
set_option maxRecDepth 40000 in
theorem zw324 : (Jvm.Cond.code ({ cls := "java/lang/IndexOutOfBoundsException", name := "<init>", desc := "(Ljava/lang/String;)V" } : Jvm.MethodName) prog_12_method_2_code (2 : Nat) (Option.none : Option Jvm.ClassFile.FieldType)) ∈ wsG := zG 372 rfl rfl
set_option maxRecDepth 40000 in
theorem zw325 : (Jvm.Cond.methodLink "java/lang/IndexOutOfBoundsException" (7 : Nat) ({ cls := "java/lang/RuntimeException", name := "<init>", desc := "(Ljava/lang/String;)V" } : Jvm.MethodName)) ∈ wsG := zG 373 rfl rfl
set_option maxRecDepth 40000 in
theorem zw336 : (Jvm.Cond.selects "java/lang/ArrayIndexOutOfBoundsException" ({ cls := "java/lang/Throwable", name := "fillInStackTrace", desc := "(I)Ljava/lang/Throwable;" } : Jvm.MethodName) ({ cls := "java/lang/Throwable", name := "fillInStackTrace", desc := "(I)Ljava/lang/Throwable;" } : Jvm.MethodName)) ∈ wsG := zG 384 rfl rfl
set_option maxRecDepth 40000 in
theorem zw337 : (Jvm.Cond.classLink "TowerFieldsLaw" (27 : Nat) "java/lang/IllegalArgumentException") ∈ wsG := zG 385 rfl rfl
set_option maxRecDepth 40000 in
theorem zw338 : (Jvm.Cond.methodLink "TowerFieldsLaw" (21 : Nat) ({ cls := "TowerFields", name := "letter", desc := "(II)I" } : Jvm.MethodName)) ∈ wsG := zG 386 rfl rfl
set_option maxRecDepth 40000 in
theorem zw339 : (Jvm.Cond.instanceMethod ({ cls := "TowerFields", name := "letter", desc := "(II)I" } : Jvm.MethodName)) ∈ wsG := zG 387 rfl rfl
set_option maxRecDepth 40000 in
theorem zw340 : (Jvm.Cond.selects "TowerFields" ({ cls := "TowerFields", name := "letter", desc := "(II)I" } : Jvm.MethodName) ({ cls := "TowerFields", name := "letter", desc := "(II)I" } : Jvm.MethodName)) ∈ wsG := zG 388 rfl rfl
set_option maxRecDepth 40000 in
theorem zw341 : (Jvm.Cond.code ({ cls := "TowerFields", name := "letter", desc := "(II)I" } : Jvm.MethodName) prog_1_method_4_code (3 : Nat) (Option.some Jvm.ClassFile.FieldType.int)) ∈ wsG := zG 389 rfl rfl
set_option maxRecDepth 40000 in
theorem zw342 : (Jvm.Cond.methodLink "TowerFields" (98 : Nat) ({ cls := "TowerFields", name := "requireElement", desc := "(I)V" } : Jvm.MethodName)) ∈ wsG := zG 390 rfl rfl
set_option maxRecDepth 40000 in
theorem zw344 : (Jvm.Cond.instanceMethod ({ cls := "TowerFields", name := "requireElement", desc := "(I)V" } : Jvm.MethodName)) ∈ wsG := zG 392 rfl rfl
set_option maxRecDepth 40000 in
theorem zw345 : (Jvm.Cond.code ({ cls := "TowerFields", name := "requireElement", desc := "(I)V" } : Jvm.MethodName) prog_1_method_19_code (2 : Nat) (Option.none : Option Jvm.ClassFile.FieldType)) ∈ wsG := zG 393 rfl rfl
set_option maxRecDepth 40000 in
theorem zw346 : (Jvm.Cond.classLink "TowerFields" (183 : Nat) "java/lang/IndexOutOfBoundsException") ∈ wsG := zG 394 rfl rfl
set_option maxRecDepth 40000 in
theorem zw347 : (Jvm.Cond.instantiable "java/lang/IndexOutOfBoundsException" (6 : Nat)) ∈ wsG := zG 395 rfl rfl
set_option maxRecDepth 40000 in
theorem zw349 : (Jvm.Cond.selects "java/lang/IndexOutOfBoundsException" ({ cls := "java/lang/Throwable", name := "fillInStackTrace", desc := "(I)Ljava/lang/Throwable;" } : Jvm.MethodName) ({ cls := "java/lang/Throwable", name := "fillInStackTrace", desc := "(I)Ljava/lang/Throwable;" } : Jvm.MethodName)) ∈ wsG := zG 397 rfl rfl
set_option maxRecDepth 40000 in
theorem zw356 : (Jvm.Cond.methodLink "TowerFields" (187 : Nat) ({ cls := "java/lang/IndexOutOfBoundsException", name := "<init>", desc := "(Ljava/lang/String;)V" } : Jvm.MethodName)) ∈ wsG := zG 404 rfl rfl
set_option maxRecDepth 40000 in
theorem zw359 : (Jvm.Cond.classLink "TowerFields" (102 : Nat) "java/lang/IllegalArgumentException") ∈ wsG := zG 407 rfl rfl
set_option maxRecDepth 40000 in
theorem zw360 : (Jvm.Cond.instantiable "java/lang/IllegalArgumentException" (6 : Nat)) ∈ wsG := zG 408 rfl rfl
set_option maxRecDepth 40000 in
theorem zw362 : (Jvm.Cond.selects "java/lang/IllegalArgumentException" ({ cls := "java/lang/Throwable", name := "fillInStackTrace", desc := "(I)Ljava/lang/Throwable;" } : Jvm.MethodName) ({ cls := "java/lang/Throwable", name := "fillInStackTrace", desc := "(I)Ljava/lang/Throwable;" } : Jvm.MethodName)) ∈ wsG := zG 410 rfl rfl
set_option maxRecDepth 40000 in
theorem zw369 : (Jvm.Cond.methodLink "TowerFields" (106 : Nat) ({ cls := "java/lang/IllegalArgumentException", name := "<init>", desc := "(Ljava/lang/String;)V" } : Jvm.MethodName)) ∈ wsG := zG 417 rfl rfl
set_option maxRecDepth 40000 in
theorem zw370 : (Jvm.Cond.instanceMethod ({ cls := "java/lang/IllegalArgumentException", name := "<init>", desc := "(Ljava/lang/String;)V" } : Jvm.MethodName)) ∈ wsG := zG 418 rfl rfl
set_option maxRecDepth 40000 in
theorem zw371 : (Jvm.Cond.code ({ cls := "java/lang/IllegalArgumentException", name := "<init>", desc := "(Ljava/lang/String;)V" } : Jvm.MethodName) prog_10_method_2_code (2 : Nat) (Option.none : Option Jvm.ClassFile.FieldType)) ∈ wsG := zG 419 rfl rfl
set_option maxRecDepth 40000 in
theorem zw372 : (Jvm.Cond.methodLink "java/lang/IllegalArgumentException" (7 : Nat) ({ cls := "java/lang/RuntimeException", name := "<init>", desc := "(Ljava/lang/String;)V" } : Jvm.MethodName)) ∈ wsG := zG 420 rfl rfl
set_option maxRecDepth 40000 in
theorem zw376 : (Jvm.Cond.methodLink "TowerFields" (109 : Nat) ({ cls := "TowerFields", name := "hasNoSlope", desc := "(I)Z" } : Jvm.MethodName)) ∈ wsG := zG 424 rfl rfl
set_option maxRecDepth 40000 in
theorem zw378 : (Jvm.Cond.instanceMethod ({ cls := "TowerFields", name := "hasNoSlope", desc := "(I)Z" } : Jvm.MethodName)) ∈ wsG := zG 426 rfl rfl
set_option maxRecDepth 40000 in
theorem zw379 : (Jvm.Cond.code ({ cls := "TowerFields", name := "hasNoSlope", desc := "(I)Z" } : Jvm.MethodName) prog_1_method_31_code (2 : Nat) (Option.some Jvm.ClassFile.FieldType.boolean)) ∈ wsG := zG 427 rfl rfl
set_option maxRecDepth 40000 in
theorem zw380 : (Jvm.Cond.methodLink "TowerFields" (141 : Nat) ({ cls := "TowerFields", name := "slopeOfFraction", desc := "(I)V" } : Jvm.MethodName)) ∈ wsG := zG 428 rfl rfl
set_option maxRecDepth 40000 in
theorem zw382 : (Jvm.Cond.instanceMethod ({ cls := "TowerFields", name := "slopeOfFraction", desc := "(I)V" } : Jvm.MethodName)) ∈ wsG := zG 430 rfl rfl
set_option maxRecDepth 40000 in
theorem zw383 : (Jvm.Cond.code ({ cls := "TowerFields", name := "slopeOfFraction", desc := "(I)V" } : Jvm.MethodName) prog_1_method_32_code (2 : Nat) (Option.none : Option Jvm.ClassFile.FieldType)) ∈ wsG := zG 431 rfl rfl
set_option maxRecDepth 40000 in
theorem zw384 : (Jvm.Cond.methodLink "TowerFields" (150 : Nat) ({ cls := "TowerFields", name := "load", desc := "(IILTowerFields$Poly;)V" } : Jvm.MethodName)) ∈ wsG := zG 432 rfl rfl
set_option maxRecDepth 40000 in
theorem zw386 : (Jvm.Cond.instanceMethod ({ cls := "TowerFields", name := "load", desc := "(IILTowerFields$Poly;)V" } : Jvm.MethodName)) ∈ wsG := zG 434 rfl rfl
set_option maxRecDepth 40000 in
theorem zw387 : (Jvm.Cond.code ({ cls := "TowerFields", name := "load", desc := "(IILTowerFields$Poly;)V" } : Jvm.MethodName) prog_1_method_24_code (7 : Nat) (Option.none : Option Jvm.ClassFile.FieldType)) ∈ wsG := zG 435 rfl rfl
set_option maxRecDepth 40000 in
theorem zw388 : (Jvm.Cond.methodLink "TowerFields" (172 : Nat) ({ cls := "TowerFields", name := "stored", desc := "(I)I" } : Jvm.MethodName)) ∈ wsG := zG 436 rfl rfl
set_option maxRecDepth 40000 in
theorem zw390 : (Jvm.Cond.instanceMethod ({ cls := "TowerFields", name := "stored", desc := "(I)I" } : Jvm.MethodName)) ∈ wsG := zG 438 rfl rfl
set_option maxRecDepth 40000 in
theorem zw391 : (Jvm.Cond.code ({ cls := "TowerFields", name := "stored", desc := "(I)I" } : Jvm.MethodName) prog_1_method_22_code (2 : Nat) (Option.some Jvm.ClassFile.FieldType.int)) ∈ wsG := zG 439 rfl rfl
set_option maxRecDepth 40000 in
theorem zw392 : (Jvm.Cond.methodLink "TowerFields" (223 : Nat) ({ cls := "TowerFields", name := "slopeOfPoly", desc := "(LTowerFields$Poly;LTowerFields$Poly;)V" } : Jvm.MethodName)) ∈ wsG := zG 440 rfl rfl
set_option maxRecDepth 40000 in
theorem zw394 : (Jvm.Cond.instanceMethod ({ cls := "TowerFields", name := "slopeOfPoly", desc := "(LTowerFields$Poly;LTowerFields$Poly;)V" } : Jvm.MethodName)) ∈ wsG := zG 442 rfl rfl
set_option maxRecDepth 40000 in
theorem zw395 : (Jvm.Cond.code ({ cls := "TowerFields", name := "slopeOfPoly", desc := "(LTowerFields$Poly;LTowerFields$Poly;)V" } : Jvm.MethodName) prog_1_method_33_code (6 : Nat) (Option.none : Option Jvm.ClassFile.FieldType)) ∈ wsG := zG 443 rfl rfl
set_option maxRecDepth 40000 in
theorem zw396 : (Jvm.Cond.methodLink "TowerFields" (226 : Nat) ({ cls := "TowerFields$Line", name := "plusSlopeProduct", desc := "(LTowerFields$Line;LTowerFields$Line;)V" } : Jvm.MethodName)) ∈ wsG := zG 444 rfl rfl
set_option maxRecDepth 40000 in
theorem zw397 : (Jvm.Cond.instanceMethod ({ cls := "TowerFields$Line", name := "plusSlopeProduct", desc := "(LTowerFields$Line;LTowerFields$Line;)V" } : Jvm.MethodName)) ∈ wsG := zG 445 rfl rfl
set_option maxRecDepth 40000 in
theorem zw398 : (Jvm.Cond.selects "TowerFields$Line" ({ cls := "TowerFields$Line", name := "plusSlopeProduct", desc := "(LTowerFields$Line;LTowerFields$Line;)V" } : Jvm.MethodName) ({ cls := "TowerFields$Line", name := "plusSlopeProduct", desc := "(LTowerFields$Line;LTowerFields$Line;)V" } : Jvm.MethodName)) ∈ wsG := zG 446 rfl rfl
set_option maxRecDepth 40000 in
theorem zw399 : (Jvm.Cond.code ({ cls := "TowerFields$Line", name := "plusSlopeProduct", desc := "(LTowerFields$Line;LTowerFields$Line;)V" } : Jvm.MethodName) prog_3_method_10_code (5 : Nat) (Option.none : Option Jvm.ClassFile.FieldType)) ∈ wsG := zG 447 rfl rfl
set_option maxRecDepth 40000 in
theorem zw400 : (Jvm.Cond.methodLink "TowerFields$Line" (19 : Nat) ({ cls := "TowerFields$Line", name := "get", desc := "(I)I" } : Jvm.MethodName)) ∈ wsG := zG 448 rfl rfl
set_option maxRecDepth 40000 in
theorem zw401 : (Jvm.Cond.methodLink "TowerFields$Line" (27 : Nat) ({ cls := "TowerFields$Line", name := "plusShifted", desc := "(LTowerFields$Line;II)V" } : Jvm.MethodName)) ∈ wsG := zG 449 rfl rfl
set_option maxRecDepth 40000 in
theorem zw402 : (Jvm.Cond.instanceMethod ({ cls := "TowerFields$Line", name := "plusShifted", desc := "(LTowerFields$Line;II)V" } : Jvm.MethodName)) ∈ wsG := zG 450 rfl rfl
set_option maxRecDepth 40000 in
theorem zw403 : (Jvm.Cond.selects "TowerFields$Line" ({ cls := "TowerFields$Line", name := "plusShifted", desc := "(LTowerFields$Line;II)V" } : Jvm.MethodName) ({ cls := "TowerFields$Line", name := "plusShifted", desc := "(LTowerFields$Line;II)V" } : Jvm.MethodName)) ∈ wsG := zG 451 rfl rfl
set_option maxRecDepth 40000 in
theorem zw404 : (Jvm.Cond.code ({ cls := "TowerFields$Line", name := "plusShifted", desc := "(LTowerFields$Line;II)V" } : Jvm.MethodName) prog_3_method_8_code (7 : Nat) (Option.none : Option Jvm.ClassFile.FieldType)) ∈ wsG := zG 452 rfl rfl
set_option maxRecDepth 40000 in
theorem zw405 : (Jvm.Cond.methodLink "TowerFields" (230 : Nat) ({ cls := "TowerFields$Line", name := "plusProduct", desc := "(LTowerFields$Line;LTowerFields$Line;I)V" } : Jvm.MethodName)) ∈ wsG := zG 453 rfl rfl
set_option maxRecDepth 40000 in
theorem zw406 : (Jvm.Cond.instanceMethod ({ cls := "TowerFields$Line", name := "plusProduct", desc := "(LTowerFields$Line;LTowerFields$Line;I)V" } : Jvm.MethodName)) ∈ wsG := zG 454 rfl rfl
set_option maxRecDepth 40000 in
theorem zw407 : (Jvm.Cond.selects "TowerFields$Line" ({ cls := "TowerFields$Line", name := "plusProduct", desc := "(LTowerFields$Line;LTowerFields$Line;I)V" } : Jvm.MethodName) ({ cls := "TowerFields$Line", name := "plusProduct", desc := "(LTowerFields$Line;LTowerFields$Line;I)V" } : Jvm.MethodName)) ∈ wsG := zG 455 rfl rfl
set_option maxRecDepth 40000 in
theorem zw408 : (Jvm.Cond.code ({ cls := "TowerFields$Line", name := "plusProduct", desc := "(LTowerFields$Line;LTowerFields$Line;I)V" } : Jvm.MethodName) prog_3_method_9_code (6 : Nat) (Option.none : Option Jvm.ClassFile.FieldType)) ∈ wsG := zG 456 rfl rfl
set_option maxRecDepth 40000 in
theorem zw409 : (Jvm.Cond.methodLink "TowerFields" (133 : Nat) ({ cls := "TowerFields$Poly", name := "plusProduct", desc := "(LTowerFields$Poly;LTowerFields$Poly;I)V" } : Jvm.MethodName)) ∈ wsG := zG 457 rfl rfl
set_option maxRecDepth 40000 in
theorem zw410 : (Jvm.Cond.instanceMethod ({ cls := "TowerFields$Poly", name := "plusProduct", desc := "(LTowerFields$Poly;LTowerFields$Poly;I)V" } : Jvm.MethodName)) ∈ wsG := zG 458 rfl rfl
set_option maxRecDepth 40000 in
theorem zw411 : (Jvm.Cond.selects "TowerFields$Poly" ({ cls := "TowerFields$Poly", name := "plusProduct", desc := "(LTowerFields$Poly;LTowerFields$Poly;I)V" } : Jvm.MethodName) ({ cls := "TowerFields$Poly", name := "plusProduct", desc := "(LTowerFields$Poly;LTowerFields$Poly;I)V" } : Jvm.MethodName)) ∈ wsG := zG 459 rfl rfl
set_option maxRecDepth 40000 in
theorem zw412 : (Jvm.Cond.code ({ cls := "TowerFields$Poly", name := "plusProduct", desc := "(LTowerFields$Poly;LTowerFields$Poly;I)V" } : Jvm.MethodName) prog_4_method_10_code (8 : Nat) (Option.none : Option Jvm.ClassFile.FieldType)) ∈ wsG := zG 460 rfl rfl
set_option maxRecDepth 40000 in
theorem zw413 : (Jvm.Cond.methodLink "TowerFields$Poly" (25 : Nat) ({ cls := "TowerFields$Poly", name := "powerT", desc := "()I" } : Jvm.MethodName)) ∈ wsG := zG 461 rfl rfl
set_option maxRecDepth 40000 in
theorem zw414 : (Jvm.Cond.instanceMethod ({ cls := "TowerFields$Poly", name := "powerT", desc := "()I" } : Jvm.MethodName)) ∈ wsG := zG 462 rfl rfl
set_option maxRecDepth 40000 in
theorem zw415 : (Jvm.Cond.selects "TowerFields$Poly" ({ cls := "TowerFields$Poly", name := "powerT", desc := "()I" } : Jvm.MethodName) ({ cls := "TowerFields$Poly", name := "powerT", desc := "()I" } : Jvm.MethodName)) ∈ wsG := zG 463 rfl rfl
set_option maxRecDepth 40000 in
theorem zw416 : (Jvm.Cond.code ({ cls := "TowerFields$Poly", name := "powerT", desc := "()I" } : Jvm.MethodName) prog_4_method_6_code (2 : Nat) (Option.some Jvm.ClassFile.FieldType.int)) ∈ wsG := zG 464 rfl rfl
set_option maxRecDepth 40000 in
theorem zw417 : (Jvm.Cond.methodLink "TowerFields$Poly" (51 : Nat) ({ cls := "TowerFields$Line", name := "plusProduct", desc := "(LTowerFields$Line;LTowerFields$Line;I)V" } : Jvm.MethodName)) ∈ wsG := zG 465 rfl rfl
set_option maxRecDepth 40000 in
theorem zw418 : (Jvm.Cond.methodLink "TowerFields" (137 : Nat) ({ cls := "TowerFields$Poly", name := "isZero", desc := "()Z" } : Jvm.MethodName)) ∈ wsG := zG 466 rfl rfl
set_option maxRecDepth 40000 in
theorem zw419 : (Jvm.Cond.instanceMethod ({ cls := "TowerFields$Poly", name := "isZero", desc := "()Z" } : Jvm.MethodName)) ∈ wsG := zG 467 rfl rfl
set_option maxRecDepth 40000 in
theorem zw420 : (Jvm.Cond.selects "TowerFields$Poly" ({ cls := "TowerFields$Poly", name := "isZero", desc := "()Z" } : Jvm.MethodName) ({ cls := "TowerFields$Poly", name := "isZero", desc := "()Z" } : Jvm.MethodName)) ∈ wsG := zG 468 rfl rfl
set_option maxRecDepth 40000 in
theorem zw421 : (Jvm.Cond.code ({ cls := "TowerFields$Poly", name := "isZero", desc := "()Z" } : Jvm.MethodName) prog_4_method_5_code (1 : Nat) (Option.some Jvm.ClassFile.FieldType.boolean)) ∈ wsG := zG 469 rfl rfl
set_option maxRecDepth 40000 in
theorem zw423 : (Jvm.Cond.methodLink "TowerFields" (115 : Nat) ({ cls := "TowerFields", name := "setSlope", desc := "(I)V" } : Jvm.MethodName)) ∈ wsG := zG 471 rfl rfl
set_option maxRecDepth 40000 in
theorem zw425 : (Jvm.Cond.instanceMethod ({ cls := "TowerFields", name := "setSlope", desc := "(I)V" } : Jvm.MethodName)) ∈ wsG := zG 473 rfl rfl
set_option maxRecDepth 40000 in
theorem zw426 : (Jvm.Cond.code ({ cls := "TowerFields", name := "setSlope", desc := "(I)V" } : Jvm.MethodName) prog_1_method_35_code (2 : Nat) (Option.none : Option Jvm.ClassFile.FieldType)) ∈ wsG := zG 474 rfl rfl
set_option maxRecDepth 40000 in
theorem zw427 : (Jvm.Cond.methodLink "TowerFields" (166 : Nat) ({ cls := "TowerFields$Divisor", name := "find", desc := "(LTowerFields$Poly;LTowerFields$Poly;)V" } : Jvm.MethodName)) ∈ wsG := zG 475 rfl rfl
set_option maxRecDepth 40000 in
theorem zw428 : (Jvm.Cond.instanceMethod ({ cls := "TowerFields$Divisor", name := "find", desc := "(LTowerFields$Poly;LTowerFields$Poly;)V" } : Jvm.MethodName)) ∈ wsG := zG 476 rfl rfl
set_option maxRecDepth 40000 in
theorem zw429 : (Jvm.Cond.selects "TowerFields$Divisor" ({ cls := "TowerFields$Divisor", name := "find", desc := "(LTowerFields$Poly;LTowerFields$Poly;)V" } : Jvm.MethodName) ({ cls := "TowerFields$Divisor", name := "find", desc := "(LTowerFields$Poly;LTowerFields$Poly;)V" } : Jvm.MethodName)) ∈ wsG := zG 477 rfl rfl
set_option maxRecDepth 40000 in
theorem zw430 : (Jvm.Cond.code ({ cls := "TowerFields$Divisor", name := "find", desc := "(LTowerFields$Poly;LTowerFields$Poly;)V" } : Jvm.MethodName) prog_2_method_2_code (9 : Nat) (Option.none : Option Jvm.ClassFile.FieldType)) ∈ wsG := zG 478 rfl rfl
set_option maxRecDepth 40000 in
theorem zw431 : (Jvm.Cond.methodLink "TowerFields$Divisor" (64 : Nat) ({ cls := "TowerFields$Poly", name := "isZero", desc := "()Z" } : Jvm.MethodName)) ∈ wsG := zG 479 rfl rfl
set_option maxRecDepth 40000 in
theorem zw432 : (Jvm.Cond.methodLink "TowerFields$Divisor" (68 : Nat) ({ cls := "TowerFields$Poly", name := "copyOf", desc := "(LTowerFields$Poly;)V" } : Jvm.MethodName)) ∈ wsG := zG 480 rfl rfl
set_option maxRecDepth 40000 in
theorem zw433 : (Jvm.Cond.instanceMethod ({ cls := "TowerFields$Poly", name := "copyOf", desc := "(LTowerFields$Poly;)V" } : Jvm.MethodName)) ∈ wsG := zG 481 rfl rfl
set_option maxRecDepth 40000 in
theorem zw434 : (Jvm.Cond.selects "TowerFields$Poly" ({ cls := "TowerFields$Poly", name := "copyOf", desc := "(LTowerFields$Poly;)V" } : Jvm.MethodName) ({ cls := "TowerFields$Poly", name := "copyOf", desc := "(LTowerFields$Poly;)V" } : Jvm.MethodName)) ∈ wsG := zG 482 rfl rfl
set_option maxRecDepth 40000 in
theorem zw435 : (Jvm.Cond.code ({ cls := "TowerFields$Poly", name := "copyOf", desc := "(LTowerFields$Poly;)V" } : Jvm.MethodName) prog_4_method_4_code (3 : Nat) (Option.none : Option Jvm.ClassFile.FieldType)) ∈ wsG := zG 483 rfl rfl
set_option maxRecDepth 40000 in
theorem zw436 : (Jvm.Cond.methodLink "TowerFields$Poly" (21 : Nat) ({ cls := "TowerFields$Line", name := "copyOf", desc := "(LTowerFields$Line;)V" } : Jvm.MethodName)) ∈ wsG := zG 484 rfl rfl
set_option maxRecDepth 40000 in
theorem zw437 : (Jvm.Cond.instanceMethod ({ cls := "TowerFields$Line", name := "copyOf", desc := "(LTowerFields$Line;)V" } : Jvm.MethodName)) ∈ wsG := zG 485 rfl rfl
set_option maxRecDepth 40000 in
theorem zw438 : (Jvm.Cond.selects "TowerFields$Line" ({ cls := "TowerFields$Line", name := "copyOf", desc := "(LTowerFields$Line;)V" } : Jvm.MethodName) ({ cls := "TowerFields$Line", name := "copyOf", desc := "(LTowerFields$Line;)V" } : Jvm.MethodName)) ∈ wsG := zG 486 rfl rfl
set_option maxRecDepth 40000 in
theorem zw439 : (Jvm.Cond.code ({ cls := "TowerFields$Line", name := "copyOf", desc := "(LTowerFields$Line;)V" } : Jvm.MethodName) prog_3_method_5_code (4 : Nat) (Option.none : Option Jvm.ClassFile.FieldType)) ∈ wsG := zG 487 rfl rfl
set_option maxRecDepth 40000 in
theorem zw440 : (Jvm.Cond.methodLink "TowerFields$Divisor" (72 : Nat) ({ cls := "TowerFields$Poly", name := "head", desc := "()I" } : Jvm.MethodName)) ∈ wsG := zG 488 rfl rfl
set_option maxRecDepth 40000 in
theorem zw441 : (Jvm.Cond.instanceMethod ({ cls := "TowerFields$Poly", name := "head", desc := "()I" } : Jvm.MethodName)) ∈ wsG := zG 489 rfl rfl
set_option maxRecDepth 40000 in
theorem zw442 : (Jvm.Cond.selects "TowerFields$Poly" ({ cls := "TowerFields$Poly", name := "head", desc := "()I" } : Jvm.MethodName) ({ cls := "TowerFields$Poly", name := "head", desc := "()I" } : Jvm.MethodName)) ∈ wsG := zG 490 rfl rfl
set_option maxRecDepth 40000 in
theorem zw443 : (Jvm.Cond.code ({ cls := "TowerFields$Poly", name := "head", desc := "()I" } : Jvm.MethodName) prog_4_method_8_code (2 : Nat) (Option.some Jvm.ClassFile.FieldType.int)) ∈ wsG := zG 491 rfl rfl
set_option maxRecDepth 40000 in
theorem zw444 : (Jvm.Cond.methodLink "TowerFields$Poly" (39 : Nat) ({ cls := "TowerFields$Poly", name := "row", desc := "(I)LTowerFields$Line;" } : Jvm.MethodName)) ∈ wsG := zG 492 rfl rfl
set_option maxRecDepth 40000 in
theorem zw445 : (Jvm.Cond.methodLink "TowerFields$Poly" (43 : Nat) ({ cls := "TowerFields$Line", name := "get", desc := "(I)I" } : Jvm.MethodName)) ∈ wsG := zG 493 rfl rfl
set_option maxRecDepth 40000 in
theorem zw447 : (Jvm.Cond.methodLink "TowerFields$Divisor" (80 : Nat) ({ cls := "TowerFields$Poly", name := "scale", desc := "(I)V" } : Jvm.MethodName)) ∈ wsG := zG 495 rfl rfl
set_option maxRecDepth 40000 in
theorem zw448 : (Jvm.Cond.instanceMethod ({ cls := "TowerFields$Poly", name := "scale", desc := "(I)V" } : Jvm.MethodName)) ∈ wsG := zG 496 rfl rfl
set_option maxRecDepth 40000 in
theorem zw449 : (Jvm.Cond.selects "TowerFields$Poly" ({ cls := "TowerFields$Poly", name := "scale", desc := "(I)V" } : Jvm.MethodName) ({ cls := "TowerFields$Poly", name := "scale", desc := "(I)V" } : Jvm.MethodName)) ∈ wsG := zG 497 rfl rfl
set_option maxRecDepth 40000 in
theorem zw450 : (Jvm.Cond.code ({ cls := "TowerFields$Poly", name := "scale", desc := "(I)V" } : Jvm.MethodName) prog_4_method_9_code (3 : Nat) (Option.none : Option Jvm.ClassFile.FieldType)) ∈ wsG := zG 498 rfl rfl
set_option maxRecDepth 40000 in
theorem zw451 : (Jvm.Cond.methodLink "TowerFields$Poly" (47 : Nat) ({ cls := "TowerFields$Line", name := "scale", desc := "(I)V" } : Jvm.MethodName)) ∈ wsG := zG 499 rfl rfl
set_option maxRecDepth 40000 in
theorem zw452 : (Jvm.Cond.instanceMethod ({ cls := "TowerFields$Line", name := "scale", desc := "(I)V" } : Jvm.MethodName)) ∈ wsG := zG 500 rfl rfl
set_option maxRecDepth 40000 in
theorem zw453 : (Jvm.Cond.selects "TowerFields$Line" ({ cls := "TowerFields$Line", name := "scale", desc := "(I)V" } : Jvm.MethodName) ({ cls := "TowerFields$Line", name := "scale", desc := "(I)V" } : Jvm.MethodName)) ∈ wsG := zG 501 rfl rfl
set_option maxRecDepth 40000 in
theorem zw454 : (Jvm.Cond.code ({ cls := "TowerFields$Line", name := "scale", desc := "(I)V" } : Jvm.MethodName) prog_3_method_7_code (3 : Nat) (Option.none : Option Jvm.ClassFile.FieldType)) ∈ wsG := zG 502 rfl rfl
set_option maxRecDepth 40000 in
theorem zw455 : (Jvm.Cond.methodLink "TowerFields$Line" (23 : Nat) ({ cls := "TowerFields$Line", name := "put", desc := "(II)V" } : Jvm.MethodName)) ∈ wsG := zG 503 rfl rfl
set_option maxRecDepth 40000 in
theorem zw456 : (Jvm.Cond.methodLink "TowerFields$Divisor" (84 : Nat) ({ cls := "TowerFields$Divisor", name := "divideBoth", desc := "(LTowerFields$Poly;LTowerFields$Poly;)Z" } : Jvm.MethodName)) ∈ wsG := zG 504 rfl rfl
set_option maxRecDepth 40000 in
theorem zw458 : (Jvm.Cond.instanceMethod ({ cls := "TowerFields$Divisor", name := "divideBoth", desc := "(LTowerFields$Poly;LTowerFields$Poly;)Z" } : Jvm.MethodName)) ∈ wsG := zG 506 rfl rfl
set_option maxRecDepth 40000 in
theorem zw459 : (Jvm.Cond.code ({ cls := "TowerFields$Divisor", name := "divideBoth", desc := "(LTowerFields$Poly;LTowerFields$Poly;)Z" } : Jvm.MethodName) prog_2_method_10_code (3 : Nat) (Option.some Jvm.ClassFile.FieldType.boolean)) ∈ wsG := zG 507 rfl rfl
set_option maxRecDepth 40000 in
theorem zw460 : (Jvm.Cond.methodLink "TowerFields$Divisor" (170 : Nat) ({ cls := "TowerFields$Divisor", name := "divide", desc := "(LTowerFields$Poly;LTowerFields$Poly;)Z" } : Jvm.MethodName)) ∈ wsG := zG 508 rfl rfl
set_option maxRecDepth 40000 in
theorem zw462 : (Jvm.Cond.instanceMethod ({ cls := "TowerFields$Divisor", name := "divide", desc := "(LTowerFields$Poly;LTowerFields$Poly;)Z" } : Jvm.MethodName)) ∈ wsG := zG 510 rfl rfl
set_option maxRecDepth 40000 in
theorem zw463 : (Jvm.Cond.code ({ cls := "TowerFields$Divisor", name := "divide", desc := "(LTowerFields$Poly;LTowerFields$Poly;)Z" } : Jvm.MethodName) prog_2_method_11_code (7 : Nat) (Option.some Jvm.ClassFile.FieldType.boolean)) ∈ wsG := zG 511 rfl rfl
set_option maxRecDepth 40000 in
theorem zw464 : (Jvm.Cond.methodLink "TowerFields$Divisor" (112 : Nat) ({ cls := "TowerFields$Poly", name := "clear", desc := "()V" } : Jvm.MethodName)) ∈ wsG := zG 512 rfl rfl
set_option maxRecDepth 40000 in
theorem zw465 : (Jvm.Cond.methodLink "TowerFields$Divisor" (105 : Nat) ({ cls := "TowerFields$Poly", name := "powerT", desc := "()I" } : Jvm.MethodName)) ∈ wsG := zG 513 rfl rfl
set_option maxRecDepth 40000 in
theorem zw466 : (Jvm.Cond.methodLink "TowerFields$Divisor" (92 : Nat) ({ cls := "TowerFields$Poly", name := "powerX", desc := "()I" } : Jvm.MethodName)) ∈ wsG := zG 514 rfl rfl
set_option maxRecDepth 40000 in
theorem zw467 : (Jvm.Cond.instanceMethod ({ cls := "TowerFields$Poly", name := "powerX", desc := "()I" } : Jvm.MethodName)) ∈ wsG := zG 515 rfl rfl
set_option maxRecDepth 40000 in
theorem zw468 : (Jvm.Cond.selects "TowerFields$Poly" ({ cls := "TowerFields$Poly", name := "powerX", desc := "()I" } : Jvm.MethodName) ({ cls := "TowerFields$Poly", name := "powerX", desc := "()I" } : Jvm.MethodName)) ∈ wsG := zG 516 rfl rfl
set_option maxRecDepth 40000 in
theorem zw469 : (Jvm.Cond.code ({ cls := "TowerFields$Poly", name := "powerX", desc := "()I" } : Jvm.MethodName) prog_4_method_7_code (3 : Nat) (Option.some Jvm.ClassFile.FieldType.int)) ∈ wsG := zG 517 rfl rfl
set_option maxRecDepth 40000 in
theorem zw470 : (Jvm.Cond.methodLink "TowerFields$Poly" (33 : Nat) ({ cls := "java/lang/Math", name := "max", desc := "(II)I" } : Jvm.MethodName)) ∈ wsG := zG 518 rfl rfl
set_option maxRecDepth 40000 in
theorem zw471 : (Jvm.Cond.static ({ cls := "java/lang/Math", name := "max", desc := "(II)I" } : Jvm.MethodName)) ∈ wsG := zG 519 rfl rfl
set_option maxRecDepth 40000 in
theorem zw472 : (Jvm.Cond.code ({ cls := "java/lang/Math", name := "max", desc := "(II)I" } : Jvm.MethodName) prog_13_method_65_code (2 : Nat) (Option.some Jvm.ClassFile.FieldType.int)) ∈ wsG := zG 520 rfl rfl
set_option maxRecDepth 40000 in
theorem zw473 : (Jvm.Cond.methodLink "TowerFields$Divisor" (127 : Nat) ({ cls := "TowerFields$Poly", name := "row", desc := "(I)LTowerFields$Line;" } : Jvm.MethodName)) ∈ wsG := zG 521 rfl rfl
set_option maxRecDepth 40000 in
theorem zw474 : (Jvm.Cond.methodLink "TowerFields$Divisor" (146 : Nat) ({ cls := "TowerFields$Line", name := "divideBy", desc := "(LTowerFields$Line;LTowerFields$Line;)V" } : Jvm.MethodName)) ∈ wsG := zG 522 rfl rfl
set_option maxRecDepth 40000 in
theorem zw475 : (Jvm.Cond.instanceMethod ({ cls := "TowerFields$Line", name := "divideBy", desc := "(LTowerFields$Line;LTowerFields$Line;)V" } : Jvm.MethodName)) ∈ wsG := zG 523 rfl rfl
set_option maxRecDepth 40000 in
theorem zw476 : (Jvm.Cond.selects "TowerFields$Line" ({ cls := "TowerFields$Line", name := "divideBy", desc := "(LTowerFields$Line;LTowerFields$Line;)V" } : Jvm.MethodName) ({ cls := "TowerFields$Line", name := "divideBy", desc := "(LTowerFields$Line;LTowerFields$Line;)V" } : Jvm.MethodName)) ∈ wsG := zG 524 rfl rfl
set_option maxRecDepth 40000 in
theorem zw477 : (Jvm.Cond.code ({ cls := "TowerFields$Line", name := "divideBy", desc := "(LTowerFields$Line;LTowerFields$Line;)V" } : Jvm.MethodName) prog_3_method_12_code (6 : Nat) (Option.none : Option Jvm.ClassFile.FieldType)) ∈ wsG := zG 525 rfl rfl
set_option maxRecDepth 40000 in
theorem zw478 : (Jvm.Cond.methodLink "TowerFields$Line" (31 : Nat) ({ cls := "TowerFields$Line", name := "clear", desc := "()V" } : Jvm.MethodName)) ∈ wsG := zG 526 rfl rfl
set_option maxRecDepth 40000 in
theorem zw480 : (Jvm.Cond.methodLink "TowerFields$Divisor" (131 : Nat) ({ cls := "TowerFields$Line", name := "copyOf", desc := "(LTowerFields$Line;)V" } : Jvm.MethodName)) ∈ wsG := zG 528 rfl rfl
set_option maxRecDepth 40000 in
theorem zw481 : (Jvm.Cond.methodLink "TowerFields$Divisor" (166 : Nat) ({ cls := "TowerFields$Line", name := "plusProduct", desc := "(LTowerFields$Line;LTowerFields$Line;I)V" } : Jvm.MethodName)) ∈ wsG := zG 529 rfl rfl
set_option maxRecDepth 40000 in
theorem zw482 : (Jvm.Cond.methodLink "TowerFields$Divisor" (88 : Nat) ({ cls := "TowerFields$Divisor", name := "findContents", desc := "(LTowerFields$Poly;LTowerFields$Poly;)V" } : Jvm.MethodName)) ∈ wsG := zG 530 rfl rfl
set_option maxRecDepth 40000 in
theorem zw484 : (Jvm.Cond.instanceMethod ({ cls := "TowerFields$Divisor", name := "findContents", desc := "(LTowerFields$Poly;LTowerFields$Poly;)V" } : Jvm.MethodName)) ∈ wsG := zG 532 rfl rfl
set_option maxRecDepth 40000 in
theorem zw485 : (Jvm.Cond.code ({ cls := "TowerFields$Divisor", name := "findContents", desc := "(LTowerFields$Poly;LTowerFields$Poly;)V" } : Jvm.MethodName) prog_2_method_3_code (3 : Nat) (Option.none : Option Jvm.ClassFile.FieldType)) ∈ wsG := zG 533 rfl rfl
set_option maxRecDepth 40000 in
theorem zw486 : (Jvm.Cond.methodLink "TowerFields$Divisor" (134 : Nat) ({ cls := "TowerFields$Divisor", name := "contentOf", desc := "(LTowerFields$Poly;LTowerFields$Line;)V" } : Jvm.MethodName)) ∈ wsG := zG 534 rfl rfl
set_option maxRecDepth 40000 in
theorem zw488 : (Jvm.Cond.instanceMethod ({ cls := "TowerFields$Divisor", name := "contentOf", desc := "(LTowerFields$Poly;LTowerFields$Line;)V" } : Jvm.MethodName)) ∈ wsG := zG 536 rfl rfl
set_option maxRecDepth 40000 in
theorem zw489 : (Jvm.Cond.code ({ cls := "TowerFields$Divisor", name := "contentOf", desc := "(LTowerFields$Poly;LTowerFields$Line;)V" } : Jvm.MethodName) prog_2_method_4_code (4 : Nat) (Option.none : Option Jvm.ClassFile.FieldType)) ∈ wsG := zG 537 rfl rfl
set_option maxRecDepth 40000 in
theorem zw490 : (Jvm.Cond.methodLink "TowerFields$Divisor" (115 : Nat) ({ cls := "TowerFields$Line", name := "clear", desc := "()V" } : Jvm.MethodName)) ∈ wsG := zG 538 rfl rfl
set_option maxRecDepth 40000 in
theorem zw491 : (Jvm.Cond.methodLink "TowerFields$Divisor" (142 : Nat) ({ cls := "TowerFields$Line", name := "meet", desc := "(LTowerFields$Line;LTowerFields$Line;)V" } : Jvm.MethodName)) ∈ wsG := zG 539 rfl rfl
set_option maxRecDepth 40000 in
theorem zw492 : (Jvm.Cond.instanceMethod ({ cls := "TowerFields$Line", name := "meet", desc := "(LTowerFields$Line;LTowerFields$Line;)V" } : Jvm.MethodName)) ∈ wsG := zG 540 rfl rfl
set_option maxRecDepth 40000 in
theorem zw493 : (Jvm.Cond.selects "TowerFields$Line" ({ cls := "TowerFields$Line", name := "meet", desc := "(LTowerFields$Line;LTowerFields$Line;)V" } : Jvm.MethodName) ({ cls := "TowerFields$Line", name := "meet", desc := "(LTowerFields$Line;LTowerFields$Line;)V" } : Jvm.MethodName)) ∈ wsG := zG 541 rfl rfl
set_option maxRecDepth 40000 in
theorem zw494 : (Jvm.Cond.code ({ cls := "TowerFields$Line", name := "meet", desc := "(LTowerFields$Line;LTowerFields$Line;)V" } : Jvm.MethodName) prog_3_method_13_code (4 : Nat) (Option.none : Option Jvm.ClassFile.FieldType)) ∈ wsG := zG 542 rfl rfl
set_option maxRecDepth 40000 in
theorem zw495 : (Jvm.Cond.methodLink "TowerFields$Line" (37 : Nat) ({ cls := "TowerFields$Line", name := "divideBy", desc := "(LTowerFields$Line;LTowerFields$Line;)V" } : Jvm.MethodName)) ∈ wsG := zG 543 rfl rfl
set_option maxRecDepth 40000 in
theorem zw496 : (Jvm.Cond.methodLink "TowerFields$Line" (41 : Nat) ({ cls := "TowerFields$Line", name := "exchange", desc := "(LTowerFields$Line;)V" } : Jvm.MethodName)) ∈ wsG := zG 544 rfl rfl
set_option maxRecDepth 40000 in
theorem zw498 : (Jvm.Cond.instanceMethod ({ cls := "TowerFields$Line", name := "exchange", desc := "(LTowerFields$Line;)V" } : Jvm.MethodName)) ∈ wsG := zG 546 rfl rfl
set_option maxRecDepth 40000 in
theorem zw499 : (Jvm.Cond.code ({ cls := "TowerFields$Line", name := "exchange", desc := "(LTowerFields$Line;)V" } : Jvm.MethodName) prog_3_method_14_code (4 : Nat) (Option.none : Option Jvm.ClassFile.FieldType)) ∈ wsG := zG 547 rfl rfl
set_option maxRecDepth 40000 in
theorem zw500 : (Jvm.Cond.methodLink "TowerFields$Line" (45 : Nat) ({ cls := "TowerFields$Line", name := "scale", desc := "(I)V" } : Jvm.MethodName)) ∈ wsG := zG 548 rfl rfl
set_option maxRecDepth 40000 in
theorem zw501 : (Jvm.Cond.methodLink "TowerFields$Divisor" (138 : Nat) ({ cls := "TowerFields$Divisor", name := "leadOf", desc := "(LTowerFields$Poly;LTowerFields$Line;LTowerFields$Line;)V" } : Jvm.MethodName)) ∈ wsG := zG 549 rfl rfl
set_option maxRecDepth 40000 in
theorem zw503 : (Jvm.Cond.instanceMethod ({ cls := "TowerFields$Divisor", name := "leadOf", desc := "(LTowerFields$Poly;LTowerFields$Line;LTowerFields$Line;)V" } : Jvm.MethodName)) ∈ wsG := zG 551 rfl rfl
set_option maxRecDepth 40000 in
theorem zw504 : (Jvm.Cond.code ({ cls := "TowerFields$Divisor", name := "leadOf", desc := "(LTowerFields$Poly;LTowerFields$Line;LTowerFields$Line;)V" } : Jvm.MethodName) prog_2_method_5_code (4 : Nat) (Option.none : Option Jvm.ClassFile.FieldType)) ∈ wsG := zG 552 rfl rfl
set_option maxRecDepth 40000 in
theorem zw505 : (Jvm.Cond.methodLink "TowerFields$Divisor" (99 : Nat) ({ cls := "java/lang/Math", name := "min", desc := "(II)I" } : Jvm.MethodName)) ∈ wsG := zG 553 rfl rfl
set_option maxRecDepth 40000 in
theorem zw506 : (Jvm.Cond.static ({ cls := "java/lang/Math", name := "min", desc := "(II)I" } : Jvm.MethodName)) ∈ wsG := zG 554 rfl rfl
set_option maxRecDepth 40000 in
theorem zw507 : (Jvm.Cond.code ({ cls := "java/lang/Math", name := "min", desc := "(II)I" } : Jvm.MethodName) prog_13_method_69_code (2 : Nat) (Option.some Jvm.ClassFile.FieldType.int)) ∈ wsG := zG 555 rfl rfl
set_option maxRecDepth 40000 in
theorem zw508 : (Jvm.Cond.methodLink "TowerFields$Divisor" (108 : Nat) ({ cls := "TowerFields$Divisor", name := "findImage", desc := "(LTowerFields$Poly;LTowerFields$Poly;I)Z" } : Jvm.MethodName)) ∈ wsG := zG 556 rfl rfl
set_option maxRecDepth 40000 in
theorem zw510 : (Jvm.Cond.instanceMethod ({ cls := "TowerFields$Divisor", name := "findImage", desc := "(LTowerFields$Poly;LTowerFields$Poly;I)Z" } : Jvm.MethodName)) ∈ wsG := zG 558 rfl rfl
set_option maxRecDepth 40000 in
theorem zw511 : (Jvm.Cond.code ({ cls := "TowerFields$Divisor", name := "findImage", desc := "(LTowerFields$Poly;LTowerFields$Poly;I)Z" } : Jvm.MethodName) prog_2_method_6_code (4 : Nat) (Option.some Jvm.ClassFile.FieldType.boolean)) ∈ wsG := zG 559 rfl rfl
set_option maxRecDepth 40000 in
theorem zw512 : (Jvm.Cond.methodLink "TowerFields$Divisor" (149 : Nat) ({ cls := "TowerFields$Divisor", name := "imageOf", desc := "(LTowerFields$Poly;ILTowerFields$Line;)V" } : Jvm.MethodName)) ∈ wsG := zG 560 rfl rfl
set_option maxRecDepth 40000 in
theorem zw513 : (Jvm.Cond.static ({ cls := "TowerFields$Divisor", name := "imageOf", desc := "(LTowerFields$Poly;ILTowerFields$Line;)V" } : Jvm.MethodName)) ∈ wsG := zG 561 rfl rfl
set_option maxRecDepth 40000 in
theorem zw514 : (Jvm.Cond.code ({ cls := "TowerFields$Divisor", name := "imageOf", desc := "(LTowerFields$Poly;ILTowerFields$Line;)V" } : Jvm.MethodName) prog_2_method_7_code (4 : Nat) (Option.none : Option Jvm.ClassFile.FieldType)) ∈ wsG := zG 562 rfl rfl
set_option maxRecDepth 40000 in
theorem zw515 : (Jvm.Cond.methodLink "TowerFields$Divisor" (153 : Nat) ({ cls := "TowerFields$Line", name := "valueAt", desc := "(I)I" } : Jvm.MethodName)) ∈ wsG := zG 563 rfl rfl
set_option maxRecDepth 40000 in
theorem zw516 : (Jvm.Cond.instanceMethod ({ cls := "TowerFields$Line", name := "valueAt", desc := "(I)I" } : Jvm.MethodName)) ∈ wsG := zG 564 rfl rfl
set_option maxRecDepth 40000 in
theorem zw517 : (Jvm.Cond.selects "TowerFields$Line" ({ cls := "TowerFields$Line", name := "valueAt", desc := "(I)I" } : Jvm.MethodName) ({ cls := "TowerFields$Line", name := "valueAt", desc := "(I)I" } : Jvm.MethodName)) ∈ wsG := zG 565 rfl rfl
set_option maxRecDepth 40000 in
theorem zw518 : (Jvm.Cond.code ({ cls := "TowerFields$Line", name := "valueAt", desc := "(I)I" } : Jvm.MethodName) prog_3_method_6_code (4 : Nat) (Option.some Jvm.ClassFile.FieldType.int)) ∈ wsG := zG 566 rfl rfl
set_option maxRecDepth 40000 in
theorem zw519 : (Jvm.Cond.methodLink "TowerFields$Divisor" (116 : Nat) ({ cls := "TowerFields$Line", name := "put", desc := "(II)V" } : Jvm.MethodName)) ∈ wsG := zG 567 rfl rfl
set_option maxRecDepth 40000 in
theorem zw520 : (Jvm.Cond.methodLink "TowerFields$Divisor" (120 : Nat) ({ cls := "TowerFields$Divisor", name := "takeIn", desc := "(I)Z" } : Jvm.MethodName)) ∈ wsG := zG 568 rfl rfl
set_option maxRecDepth 40000 in
theorem zw522 : (Jvm.Cond.instanceMethod ({ cls := "TowerFields$Divisor", name := "takeIn", desc := "(I)Z" } : Jvm.MethodName)) ∈ wsG := zG 570 rfl rfl
set_option maxRecDepth 40000 in
theorem zw523 : (Jvm.Cond.code ({ cls := "TowerFields$Divisor", name := "takeIn", desc := "(I)Z" } : Jvm.MethodName) prog_2_method_8_code (8 : Nat) (Option.some Jvm.ClassFile.FieldType.boolean)) ∈ wsG := zG 571 rfl rfl
set_option maxRecDepth 40000 in
theorem zw524 : (Jvm.Cond.methodLink "TowerFields$Divisor" (156 : Nat) ({ cls := "TowerFields$Line", name := "get", desc := "(I)I" } : Jvm.MethodName)) ∈ wsG := zG 572 rfl rfl
set_option maxRecDepth 40000 in
theorem zw525 : (Jvm.Cond.methodLink "TowerFields$Divisor" (159 : Nat) ({ cls := "TowerFields$Line", name := "plusShifted", desc := "(LTowerFields$Line;II)V" } : Jvm.MethodName)) ∈ wsG := zG 573 rfl rfl
set_option maxRecDepth 40000 in
theorem zw526 : (Jvm.Cond.methodLink "TowerFields$Divisor" (163 : Nat) ({ cls := "TowerFields$Line", name := "timesRoot", desc := "(I)V" } : Jvm.MethodName)) ∈ wsG := zG 574 rfl rfl
set_option maxRecDepth 40000 in
theorem zw527 : (Jvm.Cond.instanceMethod ({ cls := "TowerFields$Line", name := "timesRoot", desc := "(I)V" } : Jvm.MethodName)) ∈ wsG := zG 575 rfl rfl
set_option maxRecDepth 40000 in
theorem zw528 : (Jvm.Cond.selects "TowerFields$Line" ({ cls := "TowerFields$Line", name := "timesRoot", desc := "(I)V" } : Jvm.MethodName) ({ cls := "TowerFields$Line", name := "timesRoot", desc := "(I)V" } : Jvm.MethodName)) ∈ wsG := zG 576 rfl rfl
set_option maxRecDepth 40000 in
theorem zw529 : (Jvm.Cond.code ({ cls := "TowerFields$Line", name := "timesRoot", desc := "(I)V" } : Jvm.MethodName) prog_3_method_11_code (3 : Nat) (Option.none : Option Jvm.ClassFile.FieldType)) ∈ wsG := zG 577 rfl rfl
set_option maxRecDepth 40000 in
theorem zw530 : (Jvm.Cond.methodLink "TowerFields$Divisor" (124 : Nat) ({ cls := "TowerFields$Divisor", name := "tryPieced", desc := "(LTowerFields$Poly;LTowerFields$Poly;)Z" } : Jvm.MethodName)) ∈ wsG := zG 578 rfl rfl
set_option maxRecDepth 40000 in
theorem zw532 : (Jvm.Cond.instanceMethod ({ cls := "TowerFields$Divisor", name := "tryPieced", desc := "(LTowerFields$Poly;LTowerFields$Poly;)Z" } : Jvm.MethodName)) ∈ wsG := zG 580 rfl rfl
set_option maxRecDepth 40000 in
theorem zw533 : (Jvm.Cond.code ({ cls := "TowerFields$Divisor", name := "tryPieced", desc := "(LTowerFields$Poly;LTowerFields$Poly;)Z" } : Jvm.MethodName) prog_2_method_9_code (5 : Nat) (Option.some Jvm.ClassFile.FieldType.boolean)) ∈ wsG := zG 581 rfl rfl
set_option maxRecDepth 40000 in
theorem zw534 : (Jvm.Cond.methodLink "TowerFields" (233 : Nat) ({ cls := "TowerFields$Line", name := "copyOf", desc := "(LTowerFields$Line;)V" } : Jvm.MethodName)) ∈ wsG := zG 582 rfl rfl
set_option maxRecDepth 40000 in
theorem zw535 : (Jvm.Cond.methodLink "TowerFieldsLaw" (95 : Nat) ({ cls := "TowerFieldsLaw", name := "top", desc := "(LTowerFields;[J)I" } : Jvm.MethodName)) ∈ wsG := zG 583 rfl rfl
set_option maxRecDepth 40000 in
theorem zw536 : (Jvm.Cond.static ({ cls := "TowerFieldsLaw", name := "top", desc := "(LTowerFields;[J)I" } : Jvm.MethodName)) ∈ wsG := zG 584 rfl rfl
set_option maxRecDepth 40000 in
theorem zw538 : (Jvm.Cond.methodLink "TowerFieldsLaw" (29 : Nat) ({ cls := "TowerFields", name := "top", desc := "()I" } : Jvm.MethodName)) ∈ wsG := zG 586 rfl rfl
set_option maxRecDepth 40000 in
theorem zw539 : (Jvm.Cond.instanceMethod ({ cls := "TowerFields", name := "top", desc := "()I" } : Jvm.MethodName)) ∈ wsG := zG 587 rfl rfl
set_option maxRecDepth 40000 in
theorem zw540 : (Jvm.Cond.selects "TowerFields" ({ cls := "TowerFields", name := "top", desc := "()I" } : Jvm.MethodName) ({ cls := "TowerFields", name := "top", desc := "()I" } : Jvm.MethodName)) ∈ wsG := zG 588 rfl rfl
set_option maxRecDepth 40000 in
theorem zw541 : (Jvm.Cond.code ({ cls := "TowerFields", name := "top", desc := "()I" } : Jvm.MethodName) prog_1_method_5_code (1 : Nat) (Option.some Jvm.ClassFile.FieldType.int)) ∈ wsG := zG 589 rfl rfl
set_option maxRecDepth 40000 in
theorem zw543 : (Jvm.Cond.methodLink "TowerFieldsLaw" (98 : Nat) ({ cls := "TowerFieldsLaw", name := "add", desc := "(LTowerFields;II[J)I" } : Jvm.MethodName)) ∈ wsG := zG 591 rfl rfl
set_option maxRecDepth 40000 in
theorem zw544 : (Jvm.Cond.static ({ cls := "TowerFieldsLaw", name := "add", desc := "(LTowerFields;II[J)I" } : Jvm.MethodName)) ∈ wsG := zG 592 rfl rfl
set_option maxRecDepth 40000 in
theorem zw546 : (Jvm.Cond.methodLink "TowerFieldsLaw" (32 : Nat) ({ cls := "TowerFields", name := "add", desc := "(II)I" } : Jvm.MethodName)) ∈ wsG := zG 594 rfl rfl
set_option maxRecDepth 40000 in
theorem zw547 : (Jvm.Cond.instanceMethod ({ cls := "TowerFields", name := "add", desc := "(II)I" } : Jvm.MethodName)) ∈ wsG := zG 595 rfl rfl
set_option maxRecDepth 40000 in
theorem zw548 : (Jvm.Cond.selects "TowerFields" ({ cls := "TowerFields", name := "add", desc := "(II)I" } : Jvm.MethodName) ({ cls := "TowerFields", name := "add", desc := "(II)I" } : Jvm.MethodName)) ∈ wsG := zG 596 rfl rfl
set_option maxRecDepth 40000 in
theorem zw549 : (Jvm.Cond.code ({ cls := "TowerFields", name := "add", desc := "(II)I" } : Jvm.MethodName) prog_1_method_6_code (3 : Nat) (Option.some Jvm.ClassFile.FieldType.int)) ∈ wsG := zG 597 rfl rfl
set_option maxRecDepth 40000 in
theorem zw550 : (Jvm.Cond.methodLink "TowerFields" (120 : Nat) ({ cls := "TowerFields", name := "takeTwo", desc := "(II)V" } : Jvm.MethodName)) ∈ wsG := zG 598 rfl rfl
set_option maxRecDepth 40000 in
theorem zw552 : (Jvm.Cond.instanceMethod ({ cls := "TowerFields", name := "takeTwo", desc := "(II)V" } : Jvm.MethodName)) ∈ wsG := zG 600 rfl rfl
set_option maxRecDepth 40000 in
theorem zw553 : (Jvm.Cond.code ({ cls := "TowerFields", name := "takeTwo", desc := "(II)V" } : Jvm.MethodName) prog_1_method_25_code (3 : Nat) (Option.none : Option Jvm.ClassFile.FieldType)) ∈ wsG := zG 601 rfl rfl
set_option maxRecDepth 40000 in
theorem zw554 : (Jvm.Cond.methodLink "TowerFields" (123 : Nat) ({ cls := "TowerFields", name := "sumUp", desc := "(I)V" } : Jvm.MethodName)) ∈ wsG := zG 602 rfl rfl
set_option maxRecDepth 40000 in
theorem zw556 : (Jvm.Cond.instanceMethod ({ cls := "TowerFields", name := "sumUp", desc := "(I)V" } : Jvm.MethodName)) ∈ wsG := zG 604 rfl rfl
set_option maxRecDepth 40000 in
theorem zw557 : (Jvm.Cond.code ({ cls := "TowerFields", name := "sumUp", desc := "(I)V" } : Jvm.MethodName) prog_1_method_26_code (2 : Nat) (Option.none : Option Jvm.ClassFile.FieldType)) ∈ wsG := zG 605 rfl rfl
set_option maxRecDepth 40000 in
theorem zw558 : (Jvm.Cond.methodLink "TowerFields" (126 : Nat) ({ cls := "TowerFields", name := "keepLowest", desc := "()I" } : Jvm.MethodName)) ∈ wsG := zG 606 rfl rfl
set_option maxRecDepth 40000 in
theorem zw560 : (Jvm.Cond.instanceMethod ({ cls := "TowerFields", name := "keepLowest", desc := "()I" } : Jvm.MethodName)) ∈ wsG := zG 608 rfl rfl
set_option maxRecDepth 40000 in
theorem zw561 : (Jvm.Cond.code ({ cls := "TowerFields", name := "keepLowest", desc := "()I" } : Jvm.MethodName) prog_1_method_28_code (4 : Nat) (Option.some Jvm.ClassFile.FieldType.int)) ∈ wsG := zG 609 rfl rfl
set_option maxRecDepth 40000 in
theorem zw562 : (Jvm.Cond.methodLink "TowerFields" (199 : Nat) ({ cls := "TowerFields$Poly", name := "head", desc := "()I" } : Jvm.MethodName)) ∈ wsG := zG 610 rfl rfl
set_option maxRecDepth 40000 in
theorem zw563 : (Jvm.Cond.methodLink "TowerFields" (202 : Nat) ({ cls := "TowerFields$Poly", name := "scale", desc := "(I)V" } : Jvm.MethodName)) ∈ wsG := zG 611 rfl rfl
set_option maxRecDepth 40000 in
theorem zw564 : (Jvm.Cond.methodLink "TowerFields" (205 : Nat) ({ cls := "TowerFields", name := "isTooGreat", desc := "(LTowerFields$Poly;)Z" } : Jvm.MethodName)) ∈ wsG := zG 612 rfl rfl
set_option maxRecDepth 40000 in
theorem zw565 : (Jvm.Cond.static ({ cls := "TowerFields", name := "isTooGreat", desc := "(LTowerFields$Poly;)Z" } : Jvm.MethodName)) ∈ wsG := zG 613 rfl rfl
set_option maxRecDepth 40000 in
theorem zw566 : (Jvm.Cond.code ({ cls := "TowerFields", name := "isTooGreat", desc := "(LTowerFields$Poly;)Z" } : Jvm.MethodName) prog_1_method_29_code (1 : Nat) (Option.some Jvm.ClassFile.FieldType.boolean)) ∈ wsG := zG 614 rfl rfl
set_option maxRecDepth 40000 in
theorem zw567 : (Jvm.Cond.methodLink "TowerFields" (211 : Nat) ({ cls := "TowerFields$Poly", name := "powerT", desc := "()I" } : Jvm.MethodName)) ∈ wsG := zG 615 rfl rfl
set_option maxRecDepth 40000 in
theorem zw568 : (Jvm.Cond.methodLink "TowerFields" (214 : Nat) ({ cls := "TowerFields$Poly", name := "powerX", desc := "()I" } : Jvm.MethodName)) ∈ wsG := zG 616 rfl rfl
set_option maxRecDepth 40000 in
theorem zw570 : (Jvm.Cond.methodLink "TowerFieldsLaw" (101 : Nat) ({ cls := "TowerFieldsLaw", name := "less", desc := "(LTowerFields;II[J)I" } : Jvm.MethodName)) ∈ wsG := zG 618 rfl rfl
set_option maxRecDepth 40000 in
theorem zw571 : (Jvm.Cond.static ({ cls := "TowerFieldsLaw", name := "less", desc := "(LTowerFields;II[J)I" } : Jvm.MethodName)) ∈ wsG := zG 619 rfl rfl
set_option maxRecDepth 40000 in
theorem zw573 : (Jvm.Cond.methodLink "TowerFieldsLaw" (35 : Nat) ({ cls := "TowerFields", name := "less", desc := "(II)I" } : Jvm.MethodName)) ∈ wsG := zG 621 rfl rfl
set_option maxRecDepth 40000 in
theorem zw574 : (Jvm.Cond.instanceMethod ({ cls := "TowerFields", name := "less", desc := "(II)I" } : Jvm.MethodName)) ∈ wsG := zG 622 rfl rfl
set_option maxRecDepth 40000 in
theorem zw575 : (Jvm.Cond.selects "TowerFields" ({ cls := "TowerFields", name := "less", desc := "(II)I" } : Jvm.MethodName) ({ cls := "TowerFields", name := "less", desc := "(II)I" } : Jvm.MethodName)) ∈ wsG := zG 623 rfl rfl
set_option maxRecDepth 40000 in
theorem zw576 : (Jvm.Cond.code ({ cls := "TowerFields", name := "less", desc := "(II)I" } : Jvm.MethodName) prog_1_method_7_code (3 : Nat) (Option.some Jvm.ClassFile.FieldType.int)) ∈ wsG := zG 624 rfl rfl
set_option maxRecDepth 40000 in
theorem zw577 : (Jvm.Cond.methodLink "TowerFieldsLaw" (104 : Nat) ({ cls := "TowerFieldsLaw", name := "times", desc := "(LTowerFields;II[J)I" } : Jvm.MethodName)) ∈ wsG := zG 625 rfl rfl
set_option maxRecDepth 40000 in
theorem zw578 : (Jvm.Cond.static ({ cls := "TowerFieldsLaw", name := "times", desc := "(LTowerFields;II[J)I" } : Jvm.MethodName)) ∈ wsG := zG 626 rfl rfl
set_option maxRecDepth 40000 in
theorem zw580 : (Jvm.Cond.methodLink "TowerFieldsLaw" (38 : Nat) ({ cls := "TowerFields", name := "times", desc := "(II)I" } : Jvm.MethodName)) ∈ wsG := zG 628 rfl rfl
set_option maxRecDepth 40000 in
theorem zw581 : (Jvm.Cond.instanceMethod ({ cls := "TowerFields", name := "times", desc := "(II)I" } : Jvm.MethodName)) ∈ wsG := zG 629 rfl rfl
set_option maxRecDepth 40000 in
theorem zw582 : (Jvm.Cond.selects "TowerFields" ({ cls := "TowerFields", name := "times", desc := "(II)I" } : Jvm.MethodName) ({ cls := "TowerFields", name := "times", desc := "(II)I" } : Jvm.MethodName)) ∈ wsG := zG 630 rfl rfl
set_option maxRecDepth 40000 in
theorem zw583 : (Jvm.Cond.code ({ cls := "TowerFields", name := "times", desc := "(II)I" } : Jvm.MethodName) prog_1_method_8_code (3 : Nat) (Option.some Jvm.ClassFile.FieldType.int)) ∈ wsG := zG 631 rfl rfl
set_option maxRecDepth 40000 in
theorem zw584 : (Jvm.Cond.methodLink "TowerFieldsLaw" (107 : Nat) ({ cls := "TowerFieldsLaw", name := "over", desc := "(LTowerFields;II[J)I" } : Jvm.MethodName)) ∈ wsG := zG 632 rfl rfl
set_option maxRecDepth 40000 in
theorem zw585 : (Jvm.Cond.static ({ cls := "TowerFieldsLaw", name := "over", desc := "(LTowerFields;II[J)I" } : Jvm.MethodName)) ∈ wsG := zG 633 rfl rfl
set_option maxRecDepth 40000 in
theorem zw587 : (Jvm.Cond.methodLink "TowerFieldsLaw" (41 : Nat) ({ cls := "TowerFields", name := "over", desc := "(II)I" } : Jvm.MethodName)) ∈ wsG := zG 635 rfl rfl
set_option maxRecDepth 40000 in
theorem zw588 : (Jvm.Cond.instanceMethod ({ cls := "TowerFields", name := "over", desc := "(II)I" } : Jvm.MethodName)) ∈ wsG := zG 636 rfl rfl
set_option maxRecDepth 40000 in
theorem zw589 : (Jvm.Cond.selects "TowerFields" ({ cls := "TowerFields", name := "over", desc := "(II)I" } : Jvm.MethodName) ({ cls := "TowerFields", name := "over", desc := "(II)I" } : Jvm.MethodName)) ∈ wsG := zG 637 rfl rfl
set_option maxRecDepth 40000 in
theorem zw590 : (Jvm.Cond.code ({ cls := "TowerFields", name := "over", desc := "(II)I" } : Jvm.MethodName) prog_1_method_9_code (3 : Nat) (Option.some Jvm.ClassFile.FieldType.int)) ∈ wsG := zG 638 rfl rfl
set_option maxRecDepth 40000 in
theorem zw591 : (Jvm.Cond.methodLink "TowerFieldsLaw" (110 : Nat) ({ cls := "TowerFieldsLaw", name := "derive", desc := "(LTowerFields;I[J)I" } : Jvm.MethodName)) ∈ wsG := zG 639 rfl rfl
set_option maxRecDepth 40000 in
theorem zw592 : (Jvm.Cond.static ({ cls := "TowerFieldsLaw", name := "derive", desc := "(LTowerFields;I[J)I" } : Jvm.MethodName)) ∈ wsG := zG 640 rfl rfl
set_option maxRecDepth 40000 in
theorem zw594 : (Jvm.Cond.methodLink "TowerFieldsLaw" (44 : Nat) ({ cls := "TowerFields", name := "derive", desc := "(I)I" } : Jvm.MethodName)) ∈ wsG := zG 642 rfl rfl
set_option maxRecDepth 40000 in
theorem zw595 : (Jvm.Cond.instanceMethod ({ cls := "TowerFields", name := "derive", desc := "(I)I" } : Jvm.MethodName)) ∈ wsG := zG 643 rfl rfl
set_option maxRecDepth 40000 in
theorem zw596 : (Jvm.Cond.selects "TowerFields" ({ cls := "TowerFields", name := "derive", desc := "(I)I" } : Jvm.MethodName) ({ cls := "TowerFields", name := "derive", desc := "(I)I" } : Jvm.MethodName)) ∈ wsG := zG 644 rfl rfl
set_option maxRecDepth 40000 in
theorem zw597 : (Jvm.Cond.code ({ cls := "TowerFields", name := "derive", desc := "(I)I" } : Jvm.MethodName) prog_1_method_10_code (2 : Nat) (Option.some Jvm.ClassFile.FieldType.int)) ∈ wsG := zG 645 rfl rfl
set_option maxRecDepth 40000 in
theorem zw598 : (Jvm.Cond.methodLink "TowerFields" (144 : Nat) ({ cls := "TowerFields", name := "slopeOverProduct", desc := "(LTowerFields$Poly;LTowerFields$Poly;)V" } : Jvm.MethodName)) ∈ wsG := zG 646 rfl rfl
set_option maxRecDepth 40000 in
theorem zw600 : (Jvm.Cond.instanceMethod ({ cls := "TowerFields", name := "slopeOverProduct", desc := "(LTowerFields$Poly;LTowerFields$Poly;)V" } : Jvm.MethodName)) ∈ wsG := zG 648 rfl rfl
set_option maxRecDepth 40000 in
theorem zw601 : (Jvm.Cond.code ({ cls := "TowerFields", name := "slopeOverProduct", desc := "(LTowerFields$Poly;LTowerFields$Poly;)V" } : Jvm.MethodName) prog_1_method_34_code (4 : Nat) (Option.none : Option Jvm.ClassFile.FieldType)) ∈ wsG := zG 649 rfl rfl
set_option maxRecDepth 40000 in
theorem zw602 : (Jvm.Cond.methodLink "TowerFieldsLaw" (114 : Nat) ({ cls := "TowerFieldsLaw", name := "logarithmic", desc := "(LTowerFields;I[J)I" } : Jvm.MethodName)) ∈ wsG := zG 650 rfl rfl
set_option maxRecDepth 40000 in
theorem zw603 : (Jvm.Cond.static ({ cls := "TowerFieldsLaw", name := "logarithmic", desc := "(LTowerFields;I[J)I" } : Jvm.MethodName)) ∈ wsG := zG 651 rfl rfl
set_option maxRecDepth 40000 in
theorem zw605 : (Jvm.Cond.methodLink "TowerFieldsLaw" (48 : Nat) ({ cls := "TowerFields", name := "logarithmic", desc := "(I)I" } : Jvm.MethodName)) ∈ wsG := zG 653 rfl rfl
set_option maxRecDepth 40000 in
theorem zw606 : (Jvm.Cond.instanceMethod ({ cls := "TowerFields", name := "logarithmic", desc := "(I)I" } : Jvm.MethodName)) ∈ wsG := zG 654 rfl rfl
set_option maxRecDepth 40000 in
theorem zw607 : (Jvm.Cond.selects "TowerFields" ({ cls := "TowerFields", name := "logarithmic", desc := "(I)I" } : Jvm.MethodName) ({ cls := "TowerFields", name := "logarithmic", desc := "(I)I" } : Jvm.MethodName)) ∈ wsG := zG 655 rfl rfl
set_option maxRecDepth 40000 in
theorem zw608 : (Jvm.Cond.code ({ cls := "TowerFields", name := "logarithmic", desc := "(I)I" } : Jvm.MethodName) prog_1_method_11_code (2 : Nat) (Option.some Jvm.ClassFile.FieldType.int)) ∈ wsG := zG 656 rfl rfl
set_option maxRecDepth 40000 in
theorem zw609 : (Jvm.Cond.methodLink "TowerFieldsLaw" (117 : Nat) ({ cls := "TowerFieldsLaw", name := "part", desc := "(LTowerFields;II[J)I" } : Jvm.MethodName)) ∈ wsG := zG 657 rfl rfl
set_option maxRecDepth 40000 in
theorem zw610 : (Jvm.Cond.static ({ cls := "TowerFieldsLaw", name := "part", desc := "(LTowerFields;II[J)I" } : Jvm.MethodName)) ∈ wsG := zG 658 rfl rfl
set_option maxRecDepth 40000 in
theorem zw612 : (Jvm.Cond.methodLink "TowerFieldsLaw" (51 : Nat) ({ cls := "TowerFields", name := "part", desc := "(II)I" } : Jvm.MethodName)) ∈ wsG := zG 660 rfl rfl
set_option maxRecDepth 40000 in
theorem zw613 : (Jvm.Cond.instanceMethod ({ cls := "TowerFields", name := "part", desc := "(II)I" } : Jvm.MethodName)) ∈ wsG := zG 661 rfl rfl
set_option maxRecDepth 40000 in
theorem zw614 : (Jvm.Cond.selects "TowerFields" ({ cls := "TowerFields", name := "part", desc := "(II)I" } : Jvm.MethodName) ({ cls := "TowerFields", name := "part", desc := "(II)I" } : Jvm.MethodName)) ∈ wsG := zG 662 rfl rfl
set_option maxRecDepth 40000 in
theorem zw615 : (Jvm.Cond.code ({ cls := "TowerFields", name := "part", desc := "(II)I" } : Jvm.MethodName) prog_1_method_12_code (3 : Nat) (Option.some Jvm.ClassFile.FieldType.int)) ∈ wsG := zG 663 rfl rfl
set_option maxRecDepth 40000 in
theorem zw617 : (Jvm.Cond.methodLink "TowerFields" (154 : Nat) ({ cls := "TowerFields", name := "makeSquareFree", desc := "(LTowerFields$Poly;)V" } : Jvm.MethodName)) ∈ wsG := zG 665 rfl rfl
set_option maxRecDepth 40000 in
theorem zw619 : (Jvm.Cond.instanceMethod ({ cls := "TowerFields", name := "makeSquareFree", desc := "(LTowerFields$Poly;)V" } : Jvm.MethodName)) ∈ wsG := zG 667 rfl rfl
set_option maxRecDepth 40000 in
theorem zw620 : (Jvm.Cond.code ({ cls := "TowerFields", name := "makeSquareFree", desc := "(LTowerFields$Poly;)V" } : Jvm.MethodName) prog_1_method_36_code (3 : Nat) (Option.none : Option Jvm.ClassFile.FieldType)) ∈ wsG := zG 668 rfl rfl
set_option maxRecDepth 40000 in
theorem zw621 : (Jvm.Cond.methodLink "TowerFields" (237 : Nat) ({ cls := "TowerFields$Line", name := "plusShifted", desc := "(LTowerFields$Line;II)V" } : Jvm.MethodName)) ∈ wsG := zG 669 rfl rfl
set_option maxRecDepth 40000 in
theorem zw622 : (Jvm.Cond.methodLink "TowerFields" (241 : Nat) ({ cls := "TowerFields$Poly", name := "copyOf", desc := "(LTowerFields$Poly;)V" } : Jvm.MethodName)) ∈ wsG := zG 670 rfl rfl
set_option maxRecDepth 40000 in
theorem zw623 : (Jvm.Cond.methodLink "TowerFields" (158 : Nat) ({ cls := "TowerFields", name := "splitSquareFree", desc := "(LTowerFields$Poly;I)V" } : Jvm.MethodName)) ∈ wsG := zG 671 rfl rfl
set_option maxRecDepth 40000 in
theorem zw625 : (Jvm.Cond.instanceMethod ({ cls := "TowerFields", name := "splitSquareFree", desc := "(LTowerFields$Poly;I)V" } : Jvm.MethodName)) ∈ wsG := zG 673 rfl rfl
set_option maxRecDepth 40000 in
theorem zw626 : (Jvm.Cond.code ({ cls := "TowerFields", name := "splitSquareFree", desc := "(LTowerFields$Poly;I)V" } : Jvm.MethodName) prog_1_method_37_code (3 : Nat) (Option.none : Option Jvm.ClassFile.FieldType)) ∈ wsG := zG 674 rfl rfl
set_option maxRecDepth 40000 in
theorem zw627 : (Jvm.Cond.methodLink "TowerFieldsLaw" (120 : Nat) ({ cls := "TowerFieldsLaw", name := "common", desc := "(LTowerFields;II[J)I" } : Jvm.MethodName)) ∈ wsG := zG 675 rfl rfl
set_option maxRecDepth 40000 in
theorem zw628 : (Jvm.Cond.static ({ cls := "TowerFieldsLaw", name := "common", desc := "(LTowerFields;II[J)I" } : Jvm.MethodName)) ∈ wsG := zG 676 rfl rfl
set_option maxRecDepth 40000 in
theorem zw630 : (Jvm.Cond.methodLink "TowerFieldsLaw" (54 : Nat) ({ cls := "TowerFields", name := "common", desc := "(II)I" } : Jvm.MethodName)) ∈ wsG := zG 678 rfl rfl
set_option maxRecDepth 40000 in
theorem zw631 : (Jvm.Cond.instanceMethod ({ cls := "TowerFields", name := "common", desc := "(II)I" } : Jvm.MethodName)) ∈ wsG := zG 679 rfl rfl
set_option maxRecDepth 40000 in
theorem zw632 : (Jvm.Cond.selects "TowerFields" ({ cls := "TowerFields", name := "common", desc := "(II)I" } : Jvm.MethodName) ({ cls := "TowerFields", name := "common", desc := "(II)I" } : Jvm.MethodName)) ∈ wsG := zG 680 rfl rfl
set_option maxRecDepth 40000 in
theorem zw633 : (Jvm.Cond.code ({ cls := "TowerFields", name := "common", desc := "(II)I" } : Jvm.MethodName) prog_1_method_13_code (3 : Nat) (Option.some Jvm.ClassFile.FieldType.int)) ∈ wsG := zG 681 rfl rfl
set_option maxRecDepth 40000 in
theorem zw634 : (Jvm.Cond.methodLink "TowerFieldsLaw" (123 : Nat) ({ cls := "TowerFieldsLaw", name := "same", desc := "(LTowerFields;II[J)I" } : Jvm.MethodName)) ∈ wsG := zG 682 rfl rfl
set_option maxRecDepth 40000 in
theorem zw635 : (Jvm.Cond.static ({ cls := "TowerFieldsLaw", name := "same", desc := "(LTowerFields;II[J)I" } : Jvm.MethodName)) ∈ wsG := zG 683 rfl rfl
set_option maxRecDepth 40000 in
theorem zw637 : (Jvm.Cond.methodLink "TowerFieldsLaw" (57 : Nat) ({ cls := "TowerFields", name := "same", desc := "(II)Z" } : Jvm.MethodName)) ∈ wsG := zG 685 rfl rfl
set_option maxRecDepth 40000 in
theorem zw638 : (Jvm.Cond.instanceMethod ({ cls := "TowerFields", name := "same", desc := "(II)Z" } : Jvm.MethodName)) ∈ wsG := zG 686 rfl rfl
set_option maxRecDepth 40000 in
theorem zw639 : (Jvm.Cond.selects "TowerFields" ({ cls := "TowerFields", name := "same", desc := "(II)Z" } : Jvm.MethodName) ({ cls := "TowerFields", name := "same", desc := "(II)Z" } : Jvm.MethodName)) ∈ wsG := zG 687 rfl rfl
set_option maxRecDepth 40000 in
theorem zw640 : (Jvm.Cond.code ({ cls := "TowerFields", name := "same", desc := "(II)Z" } : Jvm.MethodName) prog_1_method_14_code (4 : Nat) (Option.some Jvm.ClassFile.FieldType.boolean)) ∈ wsG := zG 688 rfl rfl
set_option maxRecDepth 40000 in
theorem zw641 : (Jvm.Cond.methodLink "TowerFieldsLaw" (126 : Nat) ({ cls := "TowerFieldsLaw", name := "constant", desc := "(LTowerFields;I[J)I" } : Jvm.MethodName)) ∈ wsG := zG 689 rfl rfl
set_option maxRecDepth 40000 in
theorem zw642 : (Jvm.Cond.static ({ cls := "TowerFieldsLaw", name := "constant", desc := "(LTowerFields;I[J)I" } : Jvm.MethodName)) ∈ wsG := zG 690 rfl rfl
set_option maxRecDepth 40000 in
theorem zw644 : (Jvm.Cond.methodLink "TowerFieldsLaw" (61 : Nat) ({ cls := "TowerFields", name := "constant", desc := "(I)Z" } : Jvm.MethodName)) ∈ wsG := zG 692 rfl rfl
set_option maxRecDepth 40000 in
theorem zw645 : (Jvm.Cond.instanceMethod ({ cls := "TowerFields", name := "constant", desc := "(I)Z" } : Jvm.MethodName)) ∈ wsG := zG 693 rfl rfl
set_option maxRecDepth 40000 in
theorem zw646 : (Jvm.Cond.selects "TowerFields" ({ cls := "TowerFields", name := "constant", desc := "(I)Z" } : Jvm.MethodName) ({ cls := "TowerFields", name := "constant", desc := "(I)Z" } : Jvm.MethodName)) ∈ wsG := zG 694 rfl rfl
set_option maxRecDepth 40000 in
theorem zw647 : (Jvm.Cond.code ({ cls := "TowerFields", name := "constant", desc := "(I)Z" } : Jvm.MethodName) prog_1_method_15_code (2 : Nat) (Option.some Jvm.ClassFile.FieldType.boolean)) ∈ wsG := zG 695 rfl rfl
set_option maxRecDepth 40000 in
theorem zw648 : (Jvm.Cond.methodLink "TowerFieldsLaw" (129 : Nat) ({ cls := "TowerFieldsLaw", name := "low", desc := "(LTowerFields;I[J)I" } : Jvm.MethodName)) ∈ wsG := zG 696 rfl rfl
set_option maxRecDepth 40000 in
theorem zw649 : (Jvm.Cond.static ({ cls := "TowerFieldsLaw", name := "low", desc := "(LTowerFields;I[J)I" } : Jvm.MethodName)) ∈ wsG := zG 697 rfl rfl
set_option maxRecDepth 40000 in
theorem zw651 : (Jvm.Cond.methodLink "TowerFieldsLaw" (65 : Nat) ({ cls := "TowerFields", name := "low", desc := "(I)Z" } : Jvm.MethodName)) ∈ wsG := zG 699 rfl rfl
set_option maxRecDepth 40000 in
theorem zw652 : (Jvm.Cond.instanceMethod ({ cls := "TowerFields", name := "low", desc := "(I)Z" } : Jvm.MethodName)) ∈ wsG := zG 700 rfl rfl
set_option maxRecDepth 40000 in
theorem zw653 : (Jvm.Cond.selects "TowerFields" ({ cls := "TowerFields", name := "low", desc := "(I)Z" } : Jvm.MethodName) ({ cls := "TowerFields", name := "low", desc := "(I)Z" } : Jvm.MethodName)) ∈ wsG := zG 701 rfl rfl
set_option maxRecDepth 40000 in
theorem zw654 : (Jvm.Cond.code ({ cls := "TowerFields", name := "low", desc := "(I)Z" } : Jvm.MethodName) prog_1_method_16_code (4 : Nat) (Option.some Jvm.ClassFile.FieldType.boolean)) ∈ wsG := zG 702 rfl rfl
set_option maxRecDepth 40000 in
theorem zw655 : (Jvm.Cond.methodLink "TowerFieldsLaw" (132 : Nat) ({ cls := "TowerFieldsLaw", name := "at", desc := "(LTowerFields;IIII[J)I" } : Jvm.MethodName)) ∈ wsG := zG 703 rfl rfl
set_option maxRecDepth 40000 in
theorem zw656 : (Jvm.Cond.static ({ cls := "TowerFieldsLaw", name := "at", desc := "(LTowerFields;IIII[J)I" } : Jvm.MethodName)) ∈ wsG := zG 704 rfl rfl
set_option maxRecDepth 40000 in
theorem zw658 : (Jvm.Cond.methodLink "TowerFieldsLaw" (68 : Nat) ({ cls := "TowerFields", name := "at", desc := "(IIII)I" } : Jvm.MethodName)) ∈ wsG := zG 706 rfl rfl
set_option maxRecDepth 40000 in
theorem zw659 : (Jvm.Cond.instanceMethod ({ cls := "TowerFields", name := "at", desc := "(IIII)I" } : Jvm.MethodName)) ∈ wsG := zG 707 rfl rfl
set_option maxRecDepth 40000 in
theorem zw660 : (Jvm.Cond.selects "TowerFields" ({ cls := "TowerFields", name := "at", desc := "(IIII)I" } : Jvm.MethodName) ({ cls := "TowerFields", name := "at", desc := "(IIII)I" } : Jvm.MethodName)) ∈ wsG := zG 708 rfl rfl
set_option maxRecDepth 40000 in
theorem zw661 : (Jvm.Cond.code ({ cls := "TowerFields", name := "at", desc := "(IIII)I" } : Jvm.MethodName) prog_1_method_17_code (5 : Nat) (Option.some Jvm.ClassFile.FieldType.int)) ∈ wsG := zG 709 rfl rfl
set_option maxRecDepth 40000 in
theorem zw664 : (Jvm.Cond.classLink "TowerFieldsLaw" (73 : Nat) "TowerFieldsModel") ∈ wsG := zG 712 rfl rfl
set_option maxRecDepth 40000 in
theorem zw665 : (Jvm.Cond.instantiable "TowerFieldsModel" (21 : Nat)) ∈ wsG := zG 713 rfl rfl
set_option maxRecDepth 40000 in
theorem zw666 : (Jvm.Cond.methodLink "TowerFieldsLaw" (75 : Nat) ({ cls := "TowerFieldsModel", name := "<init>", desc := "()V" } : Jvm.MethodName)) ∈ wsG := zG 714 rfl rfl
set_option maxRecDepth 40000 in
theorem zw667 : (Jvm.Cond.instanceMethod ({ cls := "TowerFieldsModel", name := "<init>", desc := "()V" } : Jvm.MethodName)) ∈ wsG := zG 715 rfl rfl
set_option maxRecDepth 40000 in
theorem zw668 : (Jvm.Cond.code ({ cls := "TowerFieldsModel", name := "<init>", desc := "()V" } : Jvm.MethodName) prog_6_method_1_code (1 : Nat) (Option.none : Option Jvm.ClassFile.FieldType)) ∈ wsG := zG 716 rfl rfl
set_option maxRecDepth 40000 in
theorem zw669 : (Jvm.Cond.methodLink "TowerFieldsModel" (1 : Nat) ({ cls := "java/lang/Object", name := "<init>", desc := "()V" } : Jvm.MethodName)) ∈ wsG := zG 717 rfl rfl
set_option maxRecDepth 40000 in
theorem zw670 : (Jvm.Cond.constant "TowerFieldsModel" (46 : Nat) (86240 : Int32)) ∈ wsG := zG 718 rfl rfl
set_option maxRecDepth 40000 in
theorem zw671 : (Jvm.Cond.fieldLink "TowerFieldsModel" (62 : Nat) "TowerFieldsModel" "code" "I") ∈ wsG := zG 719 rfl rfl
set_option maxRecDepth 40000 in
theorem zw672 : (Jvm.Cond.fieldLink "TowerFieldsModel" (94 : Nat) "TowerFieldsModel" "many" "I") ∈ wsG := zG 720 rfl rfl
set_option maxRecDepth 40000 in
theorem zw673 : (Jvm.Cond.fieldLink "TowerFieldsModel" (7 : Nat) "TowerFieldsModel" "above" "[I") ∈ wsG := zG 721 rfl rfl
set_option maxRecDepth 40000 in
theorem zw674 : (Jvm.Cond.fieldLink "TowerFieldsModel" (13 : Nat) "TowerFieldsModel" "below" "[I") ∈ wsG := zG 722 rfl rfl
set_option maxRecDepth 40000 in
theorem zw675 : (Jvm.Cond.fieldLink "TowerFieldsModel" (119 : Nat) "TowerFieldsModel" "kind" "I") ∈ wsG := zG 723 rfl rfl
set_option maxRecDepth 40000 in
theorem zw676 : (Jvm.Cond.fieldLink "TowerFieldsModel" (16 : Nat) "TowerFieldsModel" "slopeUp" "[I") ∈ wsG := zG 724 rfl rfl
set_option maxRecDepth 40000 in
theorem zw677 : (Jvm.Cond.fieldLink "TowerFieldsModel" (19 : Nat) "TowerFieldsModel" "slopeDown" "[I") ∈ wsG := zG 725 rfl rfl
set_option maxRecDepth 40000 in
theorem zw678 : (Jvm.Cond.fieldLink "TowerFieldsModel" (22 : Nat) "TowerFieldsModel" "a" "[I") ∈ wsG := zG 726 rfl rfl
set_option maxRecDepth 40000 in
theorem zw679 : (Jvm.Cond.fieldLink "TowerFieldsModel" (25 : Nat) "TowerFieldsModel" "b" "[I") ∈ wsG := zG 727 rfl rfl
set_option maxRecDepth 40000 in
theorem zw680 : (Jvm.Cond.fieldLink "TowerFieldsModel" (28 : Nat) "TowerFieldsModel" "c" "[I") ∈ wsG := zG 728 rfl rfl
set_option maxRecDepth 40000 in
theorem zw681 : (Jvm.Cond.fieldLink "TowerFieldsModel" (31 : Nat) "TowerFieldsModel" "d" "[I") ∈ wsG := zG 729 rfl rfl
set_option maxRecDepth 40000 in
theorem zw682 : (Jvm.Cond.fieldLink "TowerFieldsModel" (34 : Nat) "TowerFieldsModel" "e" "[I") ∈ wsG := zG 730 rfl rfl
set_option maxRecDepth 40000 in
theorem zw683 : (Jvm.Cond.fieldLink "TowerFieldsModel" (37 : Nat) "TowerFieldsModel" "up" "[I") ∈ wsG := zG 731 rfl rfl
set_option maxRecDepth 40000 in
theorem zw684 : (Jvm.Cond.fieldLink "TowerFieldsModel" (40 : Nat) "TowerFieldsModel" "down" "[I") ∈ wsG := zG 732 rfl rfl
set_option maxRecDepth 40000 in
theorem zw685 : (Jvm.Cond.fieldLink "TowerFieldsModel" (80 : Nat) "TowerFieldsModel" "columns" "I") ∈ wsG := zG 733 rfl rfl
set_option maxRecDepth 40000 in
theorem zw686 : (Jvm.Cond.fieldLink "TowerFieldsModel" (43 : Nat) "TowerFieldsModel" "pivot" "[I") ∈ wsG := zG 734 rfl rfl
set_option maxRecDepth 40000 in
theorem zw687 : (Jvm.Cond.fieldLink "TowerFieldsModel" (47 : Nat) "TowerFieldsModel" "column" "[I") ∈ wsG := zG 735 rfl rfl
set_option maxRecDepth 40000 in
theorem zw688 : (Jvm.Cond.fieldLink "TowerFieldsModel" (50 : Nat) "TowerFieldsModel" "from" "[I") ∈ wsG := zG 736 rfl rfl
set_option maxRecDepth 40000 in
theorem zw689 : (Jvm.Cond.fieldLink "TowerFieldsModel" (53 : Nat) "TowerFieldsModel" "now" "[I") ∈ wsG := zG 737 rfl rfl
set_option maxRecDepth 40000 in
theorem zw690 : (Jvm.Cond.fieldLink "TowerFieldsModel" (56 : Nat) "TowerFieldsModel" "mine" "[I") ∈ wsG := zG 738 rfl rfl
set_option maxRecDepth 40000 in
theorem zw691 : (Jvm.Cond.fieldLink "TowerFieldsModel" (59 : Nat) "TowerFieldsModel" "slot" "[I") ∈ wsG := zG 739 rfl rfl
set_option maxRecDepth 40000 in
theorem zw735 : (Jvm.Cond.methodLink "TowerFieldsLaw" (84 : Nat) ({ cls := "TowerFieldsModel", name := "thrown", desc := "()I" } : Jvm.MethodName)) ∈ wsG := zG 783 rfl rfl
set_option maxRecDepth 40000 in
theorem zw736 : (Jvm.Cond.instanceMethod ({ cls := "TowerFieldsModel", name := "thrown", desc := "()I" } : Jvm.MethodName)) ∈ wsG := zG 784 rfl rfl
set_option maxRecDepth 40000 in
theorem zw737 : (Jvm.Cond.selects "TowerFieldsModel" ({ cls := "TowerFieldsModel", name := "thrown", desc := "()I" } : Jvm.MethodName) ({ cls := "TowerFieldsModel", name := "thrown", desc := "()I" } : Jvm.MethodName)) ∈ wsG := zG 785 rfl rfl
set_option maxRecDepth 40000 in
theorem zw738 : (Jvm.Cond.code ({ cls := "TowerFieldsModel", name := "thrown", desc := "()I" } : Jvm.MethodName) prog_6_method_2_code (1 : Nat) (Option.some Jvm.ClassFile.FieldType.int)) ∈ wsG := zG 786 rfl rfl
set_option maxRecDepth 40000 in
theorem zw739 : (Jvm.Cond.methodLink "TowerFieldsLaw" (83 : Nat) ({ cls := "TowerFieldsModel", name := "number", desc := "(JJ)I" } : Jvm.MethodName)) ∈ wsG := zG 787 rfl rfl
set_option maxRecDepth 40000 in
theorem zw740 : (Jvm.Cond.instanceMethod ({ cls := "TowerFieldsModel", name := "number", desc := "(JJ)I" } : Jvm.MethodName)) ∈ wsG := zG 788 rfl rfl
set_option maxRecDepth 40000 in
theorem zw741 : (Jvm.Cond.selects "TowerFieldsModel" ({ cls := "TowerFieldsModel", name := "number", desc := "(JJ)I" } : Jvm.MethodName) ({ cls := "TowerFieldsModel", name := "number", desc := "(JJ)I" } : Jvm.MethodName)) ∈ wsG := zG 789 rfl rfl
set_option maxRecDepth 40000 in
theorem zw742 : (Jvm.Cond.code ({ cls := "TowerFieldsModel", name := "number", desc := "(JJ)I" } : Jvm.MethodName) prog_6_method_22_code (5 : Nat) (Option.some Jvm.ClassFile.FieldType.int)) ∈ wsG := zG 790 rfl rfl
set_option maxRecDepth 40000 in
theorem zw743 : (Jvm.Cond.methodLink "TowerFieldsModel" (76 : Nat) ({ cls := "TowerFieldsModel", name := "modulo", desc := "(J)I" } : Jvm.MethodName)) ∈ wsG := zG 791 rfl rfl
set_option maxRecDepth 40000 in
theorem zw744 : (Jvm.Cond.static ({ cls := "TowerFieldsModel", name := "modulo", desc := "(J)I" } : Jvm.MethodName)) ∈ wsG := zG 792 rfl rfl
set_option maxRecDepth 40000 in
theorem zw745 : (Jvm.Cond.code ({ cls := "TowerFieldsModel", name := "modulo", desc := "(J)I" } : Jvm.MethodName) prog_6_method_4_code (4 : Nat) (Option.some Jvm.ClassFile.FieldType.int)) ∈ wsG := zG 793 rfl rfl
set_option maxRecDepth 40000 in
theorem zw746 : (Jvm.Cond.constantLong "TowerFieldsModel" (66 : Nat) (32003 : Int64)) ∈ wsG := zG 794 rfl rfl
set_option maxRecDepth 40000 in
theorem zw747 : (Jvm.Cond.methodLink "TowerFieldsModel" (68 : Nat) ({ cls := "TowerFieldsModel", name := "clear", desc := "([I)V" } : Jvm.MethodName)) ∈ wsG := zG 795 rfl rfl
set_option maxRecDepth 40000 in
theorem zw748 : (Jvm.Cond.static ({ cls := "TowerFieldsModel", name := "clear", desc := "([I)V" } : Jvm.MethodName)) ∈ wsG := zG 796 rfl rfl
set_option maxRecDepth 40000 in
theorem zw749 : (Jvm.Cond.code ({ cls := "TowerFieldsModel", name := "clear", desc := "([I)V" } : Jvm.MethodName) prog_6_method_6_code (2 : Nat) (Option.none : Option Jvm.ClassFile.FieldType)) ∈ wsG := zG 797 rfl rfl
set_option maxRecDepth 40000 in
theorem zw750 : (Jvm.Cond.methodLink "TowerFieldsModel" (112 : Nat) ({ cls := "TowerFieldsModel", name := "one", desc := "([I)V" } : Jvm.MethodName)) ∈ wsG := zG 798 rfl rfl
set_option maxRecDepth 40000 in
theorem zw752 : (Jvm.Cond.instanceMethod ({ cls := "TowerFieldsModel", name := "one", desc := "([I)V" } : Jvm.MethodName)) ∈ wsG := zG 800 rfl rfl
set_option maxRecDepth 40000 in
theorem zw753 : (Jvm.Cond.code ({ cls := "TowerFieldsModel", name := "one", desc := "([I)V" } : Jvm.MethodName) prog_6_method_21_code (2 : Nat) (Option.none : Option Jvm.ClassFile.FieldType)) ∈ wsG := zG 801 rfl rfl
set_option maxRecDepth 40000 in
theorem zw754 : (Jvm.Cond.methodLink "TowerFieldsModel" (90 : Nat) ({ cls := "TowerFieldsModel", name := "inverse", desc := "(I)I" } : Jvm.MethodName)) ∈ wsG := zG 802 rfl rfl
set_option maxRecDepth 40000 in
theorem zw755 : (Jvm.Cond.static ({ cls := "TowerFieldsModel", name := "inverse", desc := "(I)I" } : Jvm.MethodName)) ∈ wsG := zG 803 rfl rfl
set_option maxRecDepth 40000 in
theorem zw756 : (Jvm.Cond.code ({ cls := "TowerFieldsModel", name := "inverse", desc := "(I)I" } : Jvm.MethodName) prog_6_method_5_code (6 : Nat) (Option.some Jvm.ClassFile.FieldType.int)) ∈ wsG := zG 804 rfl rfl
set_option maxRecDepth 40000 in
theorem zw757 : (Jvm.Cond.methodLink "TowerFieldsModel" (104 : Nat) ({ cls := "TowerFieldsModel", name := "keep", desc := "()I" } : Jvm.MethodName)) ∈ wsG := zG 805 rfl rfl
set_option maxRecDepth 40000 in
theorem zw759 : (Jvm.Cond.instanceMethod ({ cls := "TowerFieldsModel", name := "keep", desc := "()I" } : Jvm.MethodName)) ∈ wsG := zG 807 rfl rfl
set_option maxRecDepth 40000 in
theorem zw760 : (Jvm.Cond.code ({ cls := "TowerFieldsModel", name := "keep", desc := "()I" } : Jvm.MethodName) prog_6_method_17_code (3 : Nat) (Option.some Jvm.ClassFile.FieldType.int)) ∈ wsG := zG 808 rfl rfl
set_option maxRecDepth 40000 in
theorem zw761 : (Jvm.Cond.methodLink "TowerFieldsLaw" (90 : Nat) ({ cls := "TowerFieldsModel", name := "base", desc := "()I" } : Jvm.MethodName)) ∈ wsG := zG 809 rfl rfl
set_option maxRecDepth 40000 in
theorem zw762 : (Jvm.Cond.instanceMethod ({ cls := "TowerFieldsModel", name := "base", desc := "()I" } : Jvm.MethodName)) ∈ wsG := zG 810 rfl rfl
set_option maxRecDepth 40000 in
theorem zw763 : (Jvm.Cond.selects "TowerFieldsModel" ({ cls := "TowerFieldsModel", name := "base", desc := "()I" } : Jvm.MethodName) ({ cls := "TowerFieldsModel", name := "base", desc := "()I" } : Jvm.MethodName)) ∈ wsG := zG 811 rfl rfl
set_option maxRecDepth 40000 in
theorem zw764 : (Jvm.Cond.code ({ cls := "TowerFieldsModel", name := "base", desc := "()I" } : Jvm.MethodName) prog_6_method_23_code (1 : Nat) (Option.some Jvm.ClassFile.FieldType.int)) ∈ wsG := zG 812 rfl rfl
set_option maxRecDepth 40000 in
theorem zw765 : (Jvm.Cond.methodLink "TowerFieldsLaw" (94 : Nat) ({ cls := "TowerFieldsModel", name := "letter", desc := "(II)I" } : Jvm.MethodName)) ∈ wsG := zG 813 rfl rfl
set_option maxRecDepth 40000 in
theorem zw766 : (Jvm.Cond.instanceMethod ({ cls := "TowerFieldsModel", name := "letter", desc := "(II)I" } : Jvm.MethodName)) ∈ wsG := zG 814 rfl rfl
set_option maxRecDepth 40000 in
theorem zw767 : (Jvm.Cond.selects "TowerFieldsModel" ({ cls := "TowerFieldsModel", name := "letter", desc := "(II)I" } : Jvm.MethodName) ({ cls := "TowerFieldsModel", name := "letter", desc := "(II)I" } : Jvm.MethodName)) ∈ wsG := zG 815 rfl rfl
set_option maxRecDepth 40000 in
theorem zw768 : (Jvm.Cond.code ({ cls := "TowerFieldsModel", name := "letter", desc := "(II)I" } : Jvm.MethodName) prog_6_method_26_code (4 : Nat) (Option.some Jvm.ClassFile.FieldType.int)) ∈ wsG := zG 816 rfl rfl
set_option maxRecDepth 40000 in
theorem zw769 : (Jvm.Cond.methodLink "TowerFieldsModel" (115 : Nat) ({ cls := "TowerFieldsModel", name := "are", desc := "(II)Z" } : Jvm.MethodName)) ∈ wsG := zG 817 rfl rfl
set_option maxRecDepth 40000 in
theorem zw771 : (Jvm.Cond.instanceMethod ({ cls := "TowerFieldsModel", name := "are", desc := "(II)Z" } : Jvm.MethodName)) ∈ wsG := zG 819 rfl rfl
set_option maxRecDepth 40000 in
theorem zw772 : (Jvm.Cond.code ({ cls := "TowerFieldsModel", name := "are", desc := "(II)Z" } : Jvm.MethodName) prog_6_method_20_code (3 : Nat) (Option.some Jvm.ClassFile.FieldType.boolean)) ∈ wsG := zG 820 rfl rfl
set_option maxRecDepth 40000 in
theorem zw773 : (Jvm.Cond.methodLink "TowerFieldsModel" (108 : Nat) ({ cls := "TowerFieldsModel", name := "isElement", desc := "(I)Z" } : Jvm.MethodName)) ∈ wsG := zG 821 rfl rfl
set_option maxRecDepth 40000 in
theorem zw775 : (Jvm.Cond.instanceMethod ({ cls := "TowerFieldsModel", name := "isElement", desc := "(I)Z" } : Jvm.MethodName)) ∈ wsG := zG 823 rfl rfl
set_option maxRecDepth 40000 in
theorem zw776 : (Jvm.Cond.code ({ cls := "TowerFieldsModel", name := "isElement", desc := "(I)Z" } : Jvm.MethodName) prog_6_method_19_code (2 : Nat) (Option.some Jvm.ClassFile.FieldType.boolean)) ∈ wsG := zG 824 rfl rfl
set_option maxRecDepth 40000 in
theorem zw777 : (Jvm.Cond.methodLink "TowerFieldsModel" (122 : Nat) ({ cls := "TowerFieldsModel", name := "isLow", desc := "(I)Z" } : Jvm.MethodName)) ∈ wsG := zG 825 rfl rfl
set_option maxRecDepth 40000 in
theorem zw779 : (Jvm.Cond.instanceMethod ({ cls := "TowerFieldsModel", name := "isLow", desc := "(I)Z" } : Jvm.MethodName)) ∈ wsG := zG 827 rfl rfl
set_option maxRecDepth 40000 in
theorem zw780 : (Jvm.Cond.code ({ cls := "TowerFieldsModel", name := "isLow", desc := "(I)Z" } : Jvm.MethodName) prog_6_method_25_code (3 : Nat) (Option.some Jvm.ClassFile.FieldType.boolean)) ∈ wsG := zG 828 rfl rfl
set_option maxRecDepth 40000 in
theorem zw781 : (Jvm.Cond.methodLink "TowerFieldsModel" (101 : Nat) ({ cls := "TowerFieldsModel", name := "raise", desc := "(I)I" } : Jvm.MethodName)) ∈ wsG := zG 829 rfl rfl
set_option maxRecDepth 40000 in
theorem zw783 : (Jvm.Cond.instanceMethod ({ cls := "TowerFieldsModel", name := "raise", desc := "(I)I" } : Jvm.MethodName)) ∈ wsG := zG 831 rfl rfl
set_option maxRecDepth 40000 in
theorem zw784 : (Jvm.Cond.code ({ cls := "TowerFieldsModel", name := "raise", desc := "(I)I" } : Jvm.MethodName) prog_6_method_3_code (2 : Nat) (Option.some Jvm.ClassFile.FieldType.int)) ∈ wsG := zG 832 rfl rfl
set_option maxRecDepth 40000 in
theorem zw785 : (Jvm.Cond.methodLink "TowerFieldsModel" (125 : Nat) ({ cls := "TowerFieldsModel", name := "load", desc := "([I[II)V" } : Jvm.MethodName)) ∈ wsG := zG 833 rfl rfl
set_option maxRecDepth 40000 in
theorem zw787 : (Jvm.Cond.instanceMethod ({ cls := "TowerFieldsModel", name := "load", desc := "([I[II)V" } : Jvm.MethodName)) ∈ wsG := zG 835 rfl rfl
set_option maxRecDepth 40000 in
theorem zw788 : (Jvm.Cond.code ({ cls := "TowerFieldsModel", name := "load", desc := "([I[II)V" } : Jvm.MethodName) prog_6_method_10_code (5 : Nat) (Option.none : Option Jvm.ClassFile.FieldType)) ∈ wsG := zG 836 rfl rfl
set_option maxRecDepth 40000 in
theorem zw789 : (Jvm.Cond.methodLink "TowerFieldsModel" (129 : Nat) ({ cls := "TowerFieldsModel", name := "slope", desc := "([I[II)V" } : Jvm.MethodName)) ∈ wsG := zG 837 rfl rfl
set_option maxRecDepth 40000 in
theorem zw790 : (Jvm.Cond.static ({ cls := "TowerFieldsModel", name := "slope", desc := "([I[II)V" } : Jvm.MethodName)) ∈ wsG := zG 838 rfl rfl
set_option maxRecDepth 40000 in
theorem zw791 : (Jvm.Cond.code ({ cls := "TowerFieldsModel", name := "slope", desc := "([I[II)V" } : Jvm.MethodName) prog_6_method_13_code (5 : Nat) (Option.none : Option Jvm.ClassFile.FieldType)) ∈ wsG := zG 839 rfl rfl
set_option maxRecDepth 40000 in
theorem zw792 : (Jvm.Cond.methodLink "TowerFieldsModel" (132 : Nat) ({ cls := "TowerFieldsModel", name := "multiply", desc := "([I[I[I)V" } : Jvm.MethodName)) ∈ wsG := zG 840 rfl rfl
set_option maxRecDepth 40000 in
theorem zw794 : (Jvm.Cond.instanceMethod ({ cls := "TowerFieldsModel", name := "multiply", desc := "([I[I[I)V" } : Jvm.MethodName)) ∈ wsG := zG 842 rfl rfl
set_option maxRecDepth 40000 in
theorem zw795 : (Jvm.Cond.code ({ cls := "TowerFieldsModel", name := "multiply", desc := "([I[I[I)V" } : Jvm.MethodName) prog_6_method_11_code (7 : Nat) (Option.none : Option Jvm.ClassFile.FieldType)) ∈ wsG := zG 843 rfl rfl
set_option maxRecDepth 40000 in
theorem zw796 : (Jvm.Cond.methodLink "TowerFieldsModel" (72 : Nat) ({ cls := "TowerFieldsModel", name := "head", desc := "([II)I" } : Jvm.MethodName)) ∈ wsG := zG 844 rfl rfl
set_option maxRecDepth 40000 in
theorem zw797 : (Jvm.Cond.static ({ cls := "TowerFieldsModel", name := "head", desc := "([II)I" } : Jvm.MethodName)) ∈ wsG := zG 845 rfl rfl
set_option maxRecDepth 40000 in
theorem zw798 : (Jvm.Cond.code ({ cls := "TowerFieldsModel", name := "head", desc := "([II)I" } : Jvm.MethodName) prog_6_method_9_code (3 : Nat) (Option.some Jvm.ClassFile.FieldType.int)) ∈ wsG := zG 846 rfl rfl
set_option maxRecDepth 40000 in
theorem zw799 : (Jvm.Cond.methodLink "TowerFieldsModel" (136 : Nat) ({ cls := "TowerFieldsModel", name := "plus", desc := "([I[II)V" } : Jvm.MethodName)) ∈ wsG := zG 847 rfl rfl
set_option maxRecDepth 40000 in
theorem zw800 : (Jvm.Cond.static ({ cls := "TowerFieldsModel", name := "plus", desc := "([I[II)V" } : Jvm.MethodName)) ∈ wsG := zG 848 rfl rfl
set_option maxRecDepth 40000 in
theorem zw801 : (Jvm.Cond.code ({ cls := "TowerFieldsModel", name := "plus", desc := "([I[II)V" } : Jvm.MethodName) prog_6_method_12_code (4 : Nat) (Option.none : Option Jvm.ClassFile.FieldType)) ∈ wsG := zG 849 rfl rfl
set_option maxRecDepth 40000 in
theorem zw802 : (Jvm.Cond.methodLink "TowerFieldsModel" (139 : Nat) ({ cls := "TowerFieldsModel", name := "isNone", desc := "([I)Z" } : Jvm.MethodName)) ∈ wsG := zG 850 rfl rfl
set_option maxRecDepth 40000 in
theorem zw803 : (Jvm.Cond.static ({ cls := "TowerFieldsModel", name := "isNone", desc := "([I)Z" } : Jvm.MethodName)) ∈ wsG := zG 851 rfl rfl
set_option maxRecDepth 40000 in
theorem zw804 : (Jvm.Cond.code ({ cls := "TowerFieldsModel", name := "isNone", desc := "([I)Z" } : Jvm.MethodName) prog_6_method_8_code (3 : Nat) (Option.some Jvm.ClassFile.FieldType.boolean)) ∈ wsG := zG 852 rfl rfl
set_option maxRecDepth 40000 in
theorem zw805 : (Jvm.Cond.methodLink "TowerFieldsModel" (143 : Nat) ({ cls := "TowerFieldsModel", name := "copy", desc := "([I[I)V" } : Jvm.MethodName)) ∈ wsG := zG 853 rfl rfl
set_option maxRecDepth 40000 in
theorem zw806 : (Jvm.Cond.static ({ cls := "TowerFieldsModel", name := "copy", desc := "([I[I)V" } : Jvm.MethodName)) ∈ wsG := zG 854 rfl rfl
set_option maxRecDepth 40000 in
theorem zw807 : (Jvm.Cond.code ({ cls := "TowerFieldsModel", name := "copy", desc := "([I[I)V" } : Jvm.MethodName) prog_6_method_7_code (3 : Nat) (Option.none : Option Jvm.ClassFile.FieldType)) ∈ wsG := zG 855 rfl rfl
set_option maxRecDepth 40000 in
theorem zw808 : (Jvm.Cond.methodLink "TowerFieldsModel" (97 : Nat) ({ cls := "TowerFieldsModel", name := "reduce", desc := "()Z" } : Jvm.MethodName)) ∈ wsG := zG 856 rfl rfl
set_option maxRecDepth 40000 in
theorem zw810 : (Jvm.Cond.instanceMethod ({ cls := "TowerFieldsModel", name := "reduce", desc := "()Z" } : Jvm.MethodName)) ∈ wsG := zG 858 rfl rfl
set_option maxRecDepth 40000 in
theorem zw811 : (Jvm.Cond.code ({ cls := "TowerFieldsModel", name := "reduce", desc := "()Z" } : Jvm.MethodName) prog_6_method_14_code (3 : Nat) (Option.some Jvm.ClassFile.FieldType.boolean)) ∈ wsG := zG 859 rfl rfl
set_option maxRecDepth 40000 in
theorem zw812 : (Jvm.Cond.methodLink "TowerFieldsModel" (83 : Nat) ({ cls := "TowerFieldsModel", name := "hangs", desc := "([III)Z" } : Jvm.MethodName)) ∈ wsG := zG 860 rfl rfl
set_option maxRecDepth 40000 in
theorem zw814 : (Jvm.Cond.instanceMethod ({ cls := "TowerFieldsModel", name := "hangs", desc := "([III)Z" } : Jvm.MethodName)) ∈ wsG := zG 862 rfl rfl
set_option maxRecDepth 40000 in
theorem zw815 : (Jvm.Cond.code ({ cls := "TowerFieldsModel", name := "hangs", desc := "([III)Z" } : Jvm.MethodName) prog_6_method_15_code (8 : Nat) (Option.some Jvm.ClassFile.FieldType.boolean)) ∈ wsG := zG 863 rfl rfl
set_option maxRecDepth 40000 in
theorem zw816 : (Jvm.Cond.methodLink "TowerFieldsModel" (87 : Nat) ({ cls := "TowerFieldsModel", name := "settle", desc := "()V" } : Jvm.MethodName)) ∈ wsG := zG 864 rfl rfl
set_option maxRecDepth 40000 in
theorem zw818 : (Jvm.Cond.instanceMethod ({ cls := "TowerFieldsModel", name := "settle", desc := "()V" } : Jvm.MethodName)) ∈ wsG := zG 866 rfl rfl
set_option maxRecDepth 40000 in
theorem zw819 : (Jvm.Cond.code ({ cls := "TowerFieldsModel", name := "settle", desc := "()V" } : Jvm.MethodName) prog_6_method_16_code (3 : Nat) (Option.none : Option Jvm.ClassFile.FieldType)) ∈ wsG := zG 867 rfl rfl
set_option maxRecDepth 40000 in
theorem zw820 : (Jvm.Cond.methodLink "TowerFieldsModel" (147 : Nat) ({ cls := "TowerFieldsModel", name := "letterItself", desc := "()I" } : Jvm.MethodName)) ∈ wsG := zG 868 rfl rfl
set_option maxRecDepth 40000 in
theorem zw822 : (Jvm.Cond.instanceMethod ({ cls := "TowerFieldsModel", name := "letterItself", desc := "()I" } : Jvm.MethodName)) ∈ wsG := zG 870 rfl rfl
set_option maxRecDepth 40000 in
theorem zw823 : (Jvm.Cond.code ({ cls := "TowerFieldsModel", name := "letterItself", desc := "()I" } : Jvm.MethodName) prog_6_method_24_code (1 : Nat) (Option.some Jvm.ClassFile.FieldType.int)) ∈ wsG := zG 871 rfl rfl
set_option maxRecDepth 40000 in
theorem zw824 : (Jvm.Cond.methodLink "TowerFieldsLaw" (97 : Nat) ({ cls := "TowerFieldsModel", name := "top", desc := "()I" } : Jvm.MethodName)) ∈ wsG := zG 872 rfl rfl
set_option maxRecDepth 40000 in
theorem zw825 : (Jvm.Cond.instanceMethod ({ cls := "TowerFieldsModel", name := "top", desc := "()I" } : Jvm.MethodName)) ∈ wsG := zG 873 rfl rfl
set_option maxRecDepth 40000 in
theorem zw826 : (Jvm.Cond.selects "TowerFieldsModel" ({ cls := "TowerFieldsModel", name := "top", desc := "()I" } : Jvm.MethodName) ({ cls := "TowerFieldsModel", name := "top", desc := "()I" } : Jvm.MethodName)) ∈ wsG := zG 874 rfl rfl
set_option maxRecDepth 40000 in
theorem zw827 : (Jvm.Cond.code ({ cls := "TowerFieldsModel", name := "top", desc := "()I" } : Jvm.MethodName) prog_6_method_27_code (1 : Nat) (Option.some Jvm.ClassFile.FieldType.int)) ∈ wsG := zG 875 rfl rfl
set_option maxRecDepth 40000 in
theorem zw828 : (Jvm.Cond.methodLink "TowerFieldsLaw" (100 : Nat) ({ cls := "TowerFieldsModel", name := "add", desc := "(II)I" } : Jvm.MethodName)) ∈ wsG := zG 876 rfl rfl
set_option maxRecDepth 40000 in
theorem zw829 : (Jvm.Cond.instanceMethod ({ cls := "TowerFieldsModel", name := "add", desc := "(II)I" } : Jvm.MethodName)) ∈ wsG := zG 877 rfl rfl
set_option maxRecDepth 40000 in
theorem zw830 : (Jvm.Cond.selects "TowerFieldsModel" ({ cls := "TowerFieldsModel", name := "add", desc := "(II)I" } : Jvm.MethodName) ({ cls := "TowerFieldsModel", name := "add", desc := "(II)I" } : Jvm.MethodName)) ∈ wsG := zG 878 rfl rfl
set_option maxRecDepth 40000 in
theorem zw831 : (Jvm.Cond.code ({ cls := "TowerFieldsModel", name := "add", desc := "(II)I" } : Jvm.MethodName) prog_6_method_29_code (3 : Nat) (Option.some Jvm.ClassFile.FieldType.int)) ∈ wsG := zG 879 rfl rfl
set_option maxRecDepth 40000 in
theorem zw832 : (Jvm.Cond.methodLink "TowerFieldsModel" (153 : Nat) ({ cls := "TowerFieldsModel", name := "sum", desc := "(III)I" } : Jvm.MethodName)) ∈ wsG := zG 880 rfl rfl
set_option maxRecDepth 40000 in
theorem zw834 : (Jvm.Cond.instanceMethod ({ cls := "TowerFieldsModel", name := "sum", desc := "(III)I" } : Jvm.MethodName)) ∈ wsG := zG 882 rfl rfl
set_option maxRecDepth 40000 in
theorem zw835 : (Jvm.Cond.code ({ cls := "TowerFieldsModel", name := "sum", desc := "(III)I" } : Jvm.MethodName) prog_6_method_28_code (4 : Nat) (Option.some Jvm.ClassFile.FieldType.int)) ∈ wsG := zG 883 rfl rfl
set_option maxRecDepth 40000 in
theorem zw836 : (Jvm.Cond.methodLink "TowerFieldsModel" (150 : Nat) ({ cls := "TowerFieldsModel", name := "made", desc := "(I)I" } : Jvm.MethodName)) ∈ wsG := zG 884 rfl rfl
set_option maxRecDepth 40000 in
theorem zw838 : (Jvm.Cond.instanceMethod ({ cls := "TowerFieldsModel", name := "made", desc := "(I)I" } : Jvm.MethodName)) ∈ wsG := zG 886 rfl rfl
set_option maxRecDepth 40000 in
theorem zw839 : (Jvm.Cond.code ({ cls := "TowerFieldsModel", name := "made", desc := "(I)I" } : Jvm.MethodName) prog_6_method_18_code (2 : Nat) (Option.some Jvm.ClassFile.FieldType.int)) ∈ wsG := zG 887 rfl rfl
set_option maxRecDepth 40000 in
theorem zw840 : (Jvm.Cond.methodLink "TowerFieldsLaw" (103 : Nat) ({ cls := "TowerFieldsModel", name := "less", desc := "(II)I" } : Jvm.MethodName)) ∈ wsG := zG 888 rfl rfl
set_option maxRecDepth 40000 in
theorem zw841 : (Jvm.Cond.instanceMethod ({ cls := "TowerFieldsModel", name := "less", desc := "(II)I" } : Jvm.MethodName)) ∈ wsG := zG 889 rfl rfl
set_option maxRecDepth 40000 in
theorem zw842 : (Jvm.Cond.selects "TowerFieldsModel" ({ cls := "TowerFieldsModel", name := "less", desc := "(II)I" } : Jvm.MethodName) ({ cls := "TowerFieldsModel", name := "less", desc := "(II)I" } : Jvm.MethodName)) ∈ wsG := zG 890 rfl rfl
set_option maxRecDepth 40000 in
theorem zw843 : (Jvm.Cond.code ({ cls := "TowerFieldsModel", name := "less", desc := "(II)I" } : Jvm.MethodName) prog_6_method_30_code (3 : Nat) (Option.some Jvm.ClassFile.FieldType.int)) ∈ wsG := zG 891 rfl rfl
set_option maxRecDepth 40000 in
theorem zw844 : (Jvm.Cond.methodLink "TowerFieldsLaw" (106 : Nat) ({ cls := "TowerFieldsModel", name := "times", desc := "(II)I" } : Jvm.MethodName)) ∈ wsG := zG 892 rfl rfl
set_option maxRecDepth 40000 in
theorem zw845 : (Jvm.Cond.instanceMethod ({ cls := "TowerFieldsModel", name := "times", desc := "(II)I" } : Jvm.MethodName)) ∈ wsG := zG 893 rfl rfl
set_option maxRecDepth 40000 in
theorem zw846 : (Jvm.Cond.selects "TowerFieldsModel" ({ cls := "TowerFieldsModel", name := "times", desc := "(II)I" } : Jvm.MethodName) ({ cls := "TowerFieldsModel", name := "times", desc := "(II)I" } : Jvm.MethodName)) ∈ wsG := zG 894 rfl rfl
set_option maxRecDepth 40000 in
theorem zw847 : (Jvm.Cond.code ({ cls := "TowerFieldsModel", name := "times", desc := "(II)I" } : Jvm.MethodName) prog_6_method_31_code (3 : Nat) (Option.some Jvm.ClassFile.FieldType.int)) ∈ wsG := zG 895 rfl rfl
set_option maxRecDepth 40000 in
theorem zw848 : (Jvm.Cond.methodLink "TowerFieldsLaw" (109 : Nat) ({ cls := "TowerFieldsModel", name := "over", desc := "(II)I" } : Jvm.MethodName)) ∈ wsG := zG 896 rfl rfl
set_option maxRecDepth 40000 in
theorem zw849 : (Jvm.Cond.instanceMethod ({ cls := "TowerFieldsModel", name := "over", desc := "(II)I" } : Jvm.MethodName)) ∈ wsG := zG 897 rfl rfl
set_option maxRecDepth 40000 in
theorem zw850 : (Jvm.Cond.selects "TowerFieldsModel" ({ cls := "TowerFieldsModel", name := "over", desc := "(II)I" } : Jvm.MethodName) ({ cls := "TowerFieldsModel", name := "over", desc := "(II)I" } : Jvm.MethodName)) ∈ wsG := zG 898 rfl rfl
set_option maxRecDepth 40000 in
theorem zw851 : (Jvm.Cond.code ({ cls := "TowerFieldsModel", name := "over", desc := "(II)I" } : Jvm.MethodName) prog_6_method_32_code (3 : Nat) (Option.some Jvm.ClassFile.FieldType.int)) ∈ wsG := zG 899 rfl rfl
set_option maxRecDepth 40000 in
theorem zw852 : (Jvm.Cond.methodLink "TowerFieldsLaw" (113 : Nat) ({ cls := "TowerFieldsModel", name := "derive", desc := "(I)I" } : Jvm.MethodName)) ∈ wsG := zG 900 rfl rfl
set_option maxRecDepth 40000 in
theorem zw853 : (Jvm.Cond.instanceMethod ({ cls := "TowerFieldsModel", name := "derive", desc := "(I)I" } : Jvm.MethodName)) ∈ wsG := zG 901 rfl rfl
set_option maxRecDepth 40000 in
theorem zw854 : (Jvm.Cond.selects "TowerFieldsModel" ({ cls := "TowerFieldsModel", name := "derive", desc := "(I)I" } : Jvm.MethodName) ({ cls := "TowerFieldsModel", name := "derive", desc := "(I)I" } : Jvm.MethodName)) ∈ wsG := zG 902 rfl rfl
set_option maxRecDepth 40000 in
theorem zw855 : (Jvm.Cond.code ({ cls := "TowerFieldsModel", name := "derive", desc := "(I)I" } : Jvm.MethodName) prog_6_method_36_code (2 : Nat) (Option.some Jvm.ClassFile.FieldType.int)) ∈ wsG := zG 903 rfl rfl
set_option maxRecDepth 40000 in
theorem zw856 : (Jvm.Cond.methodLink "TowerFieldsModel" (160 : Nat) ({ cls := "TowerFieldsModel", name := "deriveUp", desc := "(I)V" } : Jvm.MethodName)) ∈ wsG := zG 904 rfl rfl
set_option maxRecDepth 40000 in
theorem zw858 : (Jvm.Cond.instanceMethod ({ cls := "TowerFieldsModel", name := "deriveUp", desc := "(I)V" } : Jvm.MethodName)) ∈ wsG := zG 906 rfl rfl
set_option maxRecDepth 40000 in
theorem zw859 : (Jvm.Cond.code ({ cls := "TowerFieldsModel", name := "deriveUp", desc := "(I)V" } : Jvm.MethodName) prog_6_method_34_code (2 : Nat) (Option.none : Option Jvm.ClassFile.FieldType)) ∈ wsG := zG 907 rfl rfl
set_option maxRecDepth 40000 in
theorem zw860 : (Jvm.Cond.methodLink "TowerFieldsModel" (157 : Nat) ({ cls := "TowerFieldsModel", name := "deriveRow", desc := "([I[I)V" } : Jvm.MethodName)) ∈ wsG := zG 908 rfl rfl
set_option maxRecDepth 40000 in
theorem zw862 : (Jvm.Cond.instanceMethod ({ cls := "TowerFieldsModel", name := "deriveRow", desc := "([I[I)V" } : Jvm.MethodName)) ∈ wsG := zG 910 rfl rfl
set_option maxRecDepth 40000 in
theorem zw863 : (Jvm.Cond.code ({ cls := "TowerFieldsModel", name := "deriveRow", desc := "([I[I)V" } : Jvm.MethodName) prog_6_method_33_code (3 : Nat) (Option.none : Option Jvm.ClassFile.FieldType)) ∈ wsG := zG 911 rfl rfl
set_option maxRecDepth 40000 in
theorem zw864 : (Jvm.Cond.methodLink "TowerFieldsModel" (164 : Nat) ({ cls := "TowerFieldsModel", name := "finish", desc := "([I[I)V" } : Jvm.MethodName)) ∈ wsG := zG 912 rfl rfl
set_option maxRecDepth 40000 in
theorem zw866 : (Jvm.Cond.instanceMethod ({ cls := "TowerFieldsModel", name := "finish", desc := "([I[I)V" } : Jvm.MethodName)) ∈ wsG := zG 914 rfl rfl
set_option maxRecDepth 40000 in
theorem zw867 : (Jvm.Cond.code ({ cls := "TowerFieldsModel", name := "finish", desc := "([I[I)V" } : Jvm.MethodName) prog_6_method_35_code (3 : Nat) (Option.none : Option Jvm.ClassFile.FieldType)) ∈ wsG := zG 915 rfl rfl
set_option maxRecDepth 40000 in
theorem zw868 : (Jvm.Cond.methodLink "TowerFieldsLaw" (116 : Nat) ({ cls := "TowerFieldsModel", name := "logarithmic", desc := "(I)I" } : Jvm.MethodName)) ∈ wsG := zG 916 rfl rfl
set_option maxRecDepth 40000 in
theorem zw869 : (Jvm.Cond.instanceMethod ({ cls := "TowerFieldsModel", name := "logarithmic", desc := "(I)I" } : Jvm.MethodName)) ∈ wsG := zG 917 rfl rfl
set_option maxRecDepth 40000 in
theorem zw870 : (Jvm.Cond.selects "TowerFieldsModel" ({ cls := "TowerFieldsModel", name := "logarithmic", desc := "(I)I" } : Jvm.MethodName) ({ cls := "TowerFieldsModel", name := "logarithmic", desc := "(I)I" } : Jvm.MethodName)) ∈ wsG := zG 918 rfl rfl
set_option maxRecDepth 40000 in
theorem zw871 : (Jvm.Cond.code ({ cls := "TowerFieldsModel", name := "logarithmic", desc := "(I)I" } : Jvm.MethodName) prog_6_method_37_code (2 : Nat) (Option.some Jvm.ClassFile.FieldType.int)) ∈ wsG := zG 919 rfl rfl
set_option maxRecDepth 40000 in
theorem zw872 : (Jvm.Cond.methodLink "TowerFieldsLaw" (122 : Nat) ({ cls := "TowerFieldsModel", name := "common", desc := "(II)I" } : Jvm.MethodName)) ∈ wsG := zG 920 rfl rfl
set_option maxRecDepth 40000 in
theorem zw873 : (Jvm.Cond.instanceMethod ({ cls := "TowerFieldsModel", name := "common", desc := "(II)I" } : Jvm.MethodName)) ∈ wsG := zG 921 rfl rfl
set_option maxRecDepth 40000 in
theorem zw874 : (Jvm.Cond.selects "TowerFieldsModel" ({ cls := "TowerFieldsModel", name := "common", desc := "(II)I" } : Jvm.MethodName) ({ cls := "TowerFieldsModel", name := "common", desc := "(II)I" } : Jvm.MethodName)) ∈ wsG := zG 922 rfl rfl
set_option maxRecDepth 40000 in
theorem zw875 : (Jvm.Cond.code ({ cls := "TowerFieldsModel", name := "common", desc := "(II)I" } : Jvm.MethodName) prog_6_method_41_code (3 : Nat) (Option.some Jvm.ClassFile.FieldType.int)) ∈ wsG := zG 923 rfl rfl
set_option maxRecDepth 40000 in
theorem zw876 : (Jvm.Cond.methodLink "TowerFieldsModel" (173 : Nat) ({ cls := "TowerFieldsModel", name := "shared", desc := "()V" } : Jvm.MethodName)) ∈ wsG := zG 924 rfl rfl
set_option maxRecDepth 40000 in
theorem zw878 : (Jvm.Cond.instanceMethod ({ cls := "TowerFieldsModel", name := "shared", desc := "()V" } : Jvm.MethodName)) ∈ wsG := zG 926 rfl rfl
set_option maxRecDepth 40000 in
theorem zw879 : (Jvm.Cond.code ({ cls := "TowerFieldsModel", name := "shared", desc := "()V" } : Jvm.MethodName) prog_6_method_40_code (1 : Nat) (Option.none : Option Jvm.ClassFile.FieldType)) ∈ wsG := zG 927 rfl rfl
set_option maxRecDepth 40000 in
theorem zw880 : (Jvm.Cond.methodLink "TowerFieldsModel" (167 : Nat) ({ cls := "TowerFieldsModel", name := "makeMonic", desc := "([I)V" } : Jvm.MethodName)) ∈ wsG := zG 928 rfl rfl
set_option maxRecDepth 40000 in
theorem zw882 : (Jvm.Cond.instanceMethod ({ cls := "TowerFieldsModel", name := "makeMonic", desc := "([I)V" } : Jvm.MethodName)) ∈ wsG := zG 930 rfl rfl
set_option maxRecDepth 40000 in
theorem zw883 : (Jvm.Cond.code ({ cls := "TowerFieldsModel", name := "makeMonic", desc := "([I)V" } : Jvm.MethodName) prog_6_method_39_code (5 : Nat) (Option.none : Option Jvm.ClassFile.FieldType)) ∈ wsG := zG 931 rfl rfl
set_option maxRecDepth 40000 in
theorem zw884 : (Jvm.Cond.methodLink "TowerFieldsModel" (170 : Nat) ({ cls := "TowerFieldsModel", name := "divide", desc := "([I)V" } : Jvm.MethodName)) ∈ wsG := zG 932 rfl rfl
set_option maxRecDepth 40000 in
theorem zw886 : (Jvm.Cond.instanceMethod ({ cls := "TowerFieldsModel", name := "divide", desc := "([I)V" } : Jvm.MethodName)) ∈ wsG := zG 934 rfl rfl
set_option maxRecDepth 40000 in
theorem zw887 : (Jvm.Cond.code ({ cls := "TowerFieldsModel", name := "divide", desc := "([I)V" } : Jvm.MethodName) prog_6_method_38_code (7 : Nat) (Option.none : Option Jvm.ClassFile.FieldType)) ∈ wsG := zG 935 rfl rfl
set_option maxRecDepth 40000 in
theorem zw888 : (Jvm.Cond.methodLink "TowerFieldsLaw" (119 : Nat) ({ cls := "TowerFieldsModel", name := "part", desc := "(II)I" } : Jvm.MethodName)) ∈ wsG := zG 936 rfl rfl
set_option maxRecDepth 40000 in
theorem zw889 : (Jvm.Cond.instanceMethod ({ cls := "TowerFieldsModel", name := "part", desc := "(II)I" } : Jvm.MethodName)) ∈ wsG := zG 937 rfl rfl
set_option maxRecDepth 40000 in
theorem zw890 : (Jvm.Cond.selects "TowerFieldsModel" ({ cls := "TowerFieldsModel", name := "part", desc := "(II)I" } : Jvm.MethodName) ({ cls := "TowerFieldsModel", name := "part", desc := "(II)I" } : Jvm.MethodName)) ∈ wsG := zG 938 rfl rfl
set_option maxRecDepth 40000 in
theorem zw891 : (Jvm.Cond.code ({ cls := "TowerFieldsModel", name := "part", desc := "(II)I" } : Jvm.MethodName) prog_6_method_43_code (5 : Nat) (Option.some Jvm.ClassFile.FieldType.int)) ∈ wsG := zG 939 rfl rfl
set_option maxRecDepth 40000 in
theorem zw892 : (Jvm.Cond.methodLink "TowerFieldsModel" (176 : Nat) ({ cls := "TowerFieldsModel", name := "bare", desc := "()V" } : Jvm.MethodName)) ∈ wsG := zG 940 rfl rfl
set_option maxRecDepth 40000 in
theorem zw894 : (Jvm.Cond.instanceMethod ({ cls := "TowerFieldsModel", name := "bare", desc := "()V" } : Jvm.MethodName)) ∈ wsG := zG 942 rfl rfl
set_option maxRecDepth 40000 in
theorem zw895 : (Jvm.Cond.code ({ cls := "TowerFieldsModel", name := "bare", desc := "()V" } : Jvm.MethodName) prog_6_method_42_code (4 : Nat) (Option.none : Option Jvm.ClassFile.FieldType)) ∈ wsG := zG 943 rfl rfl
set_option maxRecDepth 40000 in
theorem zw896 : (Jvm.Cond.methodLink "TowerFieldsLaw" (125 : Nat) ({ cls := "TowerFieldsModel", name := "same", desc := "(II)Z" } : Jvm.MethodName)) ∈ wsG := zG 944 rfl rfl
set_option maxRecDepth 40000 in
theorem zw897 : (Jvm.Cond.instanceMethod ({ cls := "TowerFieldsModel", name := "same", desc := "(II)Z" } : Jvm.MethodName)) ∈ wsG := zG 945 rfl rfl
set_option maxRecDepth 40000 in
theorem zw898 : (Jvm.Cond.selects "TowerFieldsModel" ({ cls := "TowerFieldsModel", name := "same", desc := "(II)Z" } : Jvm.MethodName) ({ cls := "TowerFieldsModel", name := "same", desc := "(II)Z" } : Jvm.MethodName)) ∈ wsG := zG 946 rfl rfl
set_option maxRecDepth 40000 in
theorem zw899 : (Jvm.Cond.code ({ cls := "TowerFieldsModel", name := "same", desc := "(II)Z" } : Jvm.MethodName) prog_6_method_44_code (5 : Nat) (Option.some Jvm.ClassFile.FieldType.boolean)) ∈ wsG := zG 947 rfl rfl
set_option maxRecDepth 40000 in
theorem zw900 : (Jvm.Cond.methodLink "TowerFieldsLaw" (128 : Nat) ({ cls := "TowerFieldsModel", name := "constant", desc := "(I)Z" } : Jvm.MethodName)) ∈ wsG := zG 948 rfl rfl
set_option maxRecDepth 40000 in
theorem zw901 : (Jvm.Cond.instanceMethod ({ cls := "TowerFieldsModel", name := "constant", desc := "(I)Z" } : Jvm.MethodName)) ∈ wsG := zG 949 rfl rfl
set_option maxRecDepth 40000 in
theorem zw902 : (Jvm.Cond.selects "TowerFieldsModel" ({ cls := "TowerFieldsModel", name := "constant", desc := "(I)Z" } : Jvm.MethodName) ({ cls := "TowerFieldsModel", name := "constant", desc := "(I)Z" } : Jvm.MethodName)) ∈ wsG := zG 950 rfl rfl
set_option maxRecDepth 40000 in
theorem zw903 : (Jvm.Cond.code ({ cls := "TowerFieldsModel", name := "constant", desc := "(I)Z" } : Jvm.MethodName) prog_6_method_45_code (2 : Nat) (Option.some Jvm.ClassFile.FieldType.boolean)) ∈ wsG := zG 951 rfl rfl
set_option maxRecDepth 40000 in
theorem zw904 : (Jvm.Cond.methodLink "TowerFieldsLaw" (131 : Nat) ({ cls := "TowerFieldsModel", name := "low", desc := "(I)Z" } : Jvm.MethodName)) ∈ wsG := zG 952 rfl rfl
set_option maxRecDepth 40000 in
theorem zw905 : (Jvm.Cond.instanceMethod ({ cls := "TowerFieldsModel", name := "low", desc := "(I)Z" } : Jvm.MethodName)) ∈ wsG := zG 953 rfl rfl
set_option maxRecDepth 40000 in
theorem zw906 : (Jvm.Cond.selects "TowerFieldsModel" ({ cls := "TowerFieldsModel", name := "low", desc := "(I)Z" } : Jvm.MethodName) ({ cls := "TowerFieldsModel", name := "low", desc := "(I)Z" } : Jvm.MethodName)) ∈ wsG := zG 954 rfl rfl
set_option maxRecDepth 40000 in
theorem zw907 : (Jvm.Cond.code ({ cls := "TowerFieldsModel", name := "low", desc := "(I)Z" } : Jvm.MethodName) prog_6_method_46_code (2 : Nat) (Option.some Jvm.ClassFile.FieldType.boolean)) ∈ wsG := zG 955 rfl rfl
set_option maxRecDepth 40000 in
theorem zw908 : (Jvm.Cond.methodLink "TowerFieldsLaw" (135 : Nat) ({ cls := "TowerFieldsModel", name := "at", desc := "(IIII)I" } : Jvm.MethodName)) ∈ wsG := zG 956 rfl rfl
set_option maxRecDepth 40000 in
theorem zw909 : (Jvm.Cond.instanceMethod ({ cls := "TowerFieldsModel", name := "at", desc := "(IIII)I" } : Jvm.MethodName)) ∈ wsG := zG 957 rfl rfl
set_option maxRecDepth 40000 in
theorem zw910 : (Jvm.Cond.selects "TowerFieldsModel" ({ cls := "TowerFieldsModel", name := "at", desc := "(IIII)I" } : Jvm.MethodName) ({ cls := "TowerFieldsModel", name := "at", desc := "(IIII)I" } : Jvm.MethodName)) ∈ wsG := zG 958 rfl rfl
set_option maxRecDepth 40000 in
theorem zw911 : (Jvm.Cond.code ({ cls := "TowerFieldsModel", name := "at", desc := "(IIII)I" } : Jvm.MethodName) prog_6_method_47_code (5 : Nat) (Option.some Jvm.ClassFile.FieldType.int)) ∈ wsG := zG 959 rfl rfl
set_option maxRecDepth 40000 in
theorem zw912 : (Jvm.Cond.methodLink "TowerFieldsLaw" (139 : Nat) ({ cls := "TowerFieldsModel", name := "count", desc := "()I" } : Jvm.MethodName)) ∈ wsG := zG 960 rfl rfl
set_option maxRecDepth 40000 in
theorem zw913 : (Jvm.Cond.instanceMethod ({ cls := "TowerFieldsModel", name := "count", desc := "()I" } : Jvm.MethodName)) ∈ wsG := zG 961 rfl rfl
set_option maxRecDepth 40000 in
theorem zw914 : (Jvm.Cond.selects "TowerFieldsModel" ({ cls := "TowerFieldsModel", name := "count", desc := "()I" } : Jvm.MethodName) ({ cls := "TowerFieldsModel", name := "count", desc := "()I" } : Jvm.MethodName)) ∈ wsG := zG 962 rfl rfl
set_option maxRecDepth 40000 in
theorem zw915 : (Jvm.Cond.code ({ cls := "TowerFieldsModel", name := "count", desc := "()I" } : Jvm.MethodName) prog_6_method_48_code (1 : Nat) (Option.some Jvm.ClassFile.FieldType.int)) ∈ wsG := zG 963 rfl rfl
set_option maxRecDepth 40000 in
theorem zw916 : (Jvm.Cond.constantLong "TowerFieldsLaw" (76 : Nat) (4294967295 : Int64)) ∈ wsG := zG 964 rfl rfl
set_option maxRecDepth 40000 in
theorem zw917 : (Jvm.Cond.arrayClass Jvm.ClassFile.FieldType.long) ∈ wsG := zG 965 rfl rfl
end
section
theorem zinX0 : ∀ w ∈ u_ws RX0 TX0 15, w ∈ wsG := by decide +kernel
theorem zinX1 : ∀ w ∈ u_ws RX1 TX1 2, w ∈ wsG := by decide +kernel
theorem zinX2 : ∀ w ∈ u_ws RX2 TX2 1, w ∈ wsG := by decide +kernel
theorem zinX3 : ∀ w ∈ u_ws RX3 TX3 15, w ∈ wsG := by decide +kernel
theorem zinX4 : ∀ w ∈ u_ws RX4 TX4 21, w ∈ wsG := by decide +kernel
end
section
/-! words of nest mates, numbers -/
def zNest : List Cond := [(Jvm.Cond.methodLinkNest "TowerFields" (22 : Nat) ({ cls := "TowerFields$Line", name := "<init>", desc := "()V" } : Jvm.MethodName) "TowerFields"), (Jvm.Cond.fieldLinkNest "TowerFields$Divisor" (95 : Nat) "TowerFields$Line" "degree" "I" "TowerFields"), (Jvm.Cond.fieldLinkNest "TowerFields$Poly" (29 : Nat) "TowerFields$Line" "degree" "I" "TowerFields"), (Jvm.Cond.methodLinkNest "TowerFields$Poly" (17 : Nat) ({ cls := "TowerFields$Line", name := "<init>", desc := "()V" } : Jvm.MethodName) "TowerFields"), (Jvm.Cond.methodLinkNest "TowerFields" (63 : Nat) ({ cls := "TowerFields$Divisor", name := "<init>", desc := "()V" } : Jvm.MethodName) "TowerFields"), (Jvm.Cond.methodLinkNest "TowerFields$Divisor" (32 : Nat) ({ cls := "TowerFields$Line", name := "<init>", desc := "()V" } : Jvm.MethodName) "TowerFields"), (Jvm.Cond.methodLinkNest "TowerFields$Divisor" (76 : Nat) ({ cls := "TowerFields", name := "inverse", desc := "(I)I" } : Jvm.MethodName) "TowerFields"), (Jvm.Cond.methodLinkNest "TowerFields$Line" (34 : Nat) ({ cls := "TowerFields", name := "inverse", desc := "(I)I" } : Jvm.MethodName) "TowerFields")]
def zNx (U : State) : Prop := ∀ w ∈ zNest, va_Nw w U
theorem zNx.warm {s U : State} (hW : s.WarmedH U.vm) (h : zNx s) : zNx U := by
  intro w hw
  have h1 := h w hw
  simp only [zNest, List.mem_cons, List.not_mem_nil, or_false] at hw
  rcases hw with rfl | rfl | rfl | rfl | rfl | rfl | rfl | rfl
  all_goals first | exact va_Nw.warmF hW h1 | exact va_Nw.warmM hW h1
theorem zNx.same {u U : State} (h : u.vm = U.vm) (hz : zNx u) : zNx U := by
  intro w hw
  have h1 := hz w hw
  refine va_Nw.same ?_ h h1
  simp only [zNest, List.mem_cons, List.not_mem_nil, or_false] at hw
  rcases hw with rfl | rfl | rfl | rfl | rfl | rfl | rfl | rfl
  all_goals rfl
def iZ (z : Int) : Int32 := Int32.ofInt z
def vz (x : FP) : Int := (x.val : Int)
theorem vz_0 : vz 0 = 0 := rfl
theorem vz_1 : vz 1 = 1 := rfl
theorem vz_nn (x : FP) : 0 ≤ vz x := Int.natCast_nonneg _
theorem vz_lt (x : FP) : vz x < 32003 := by
  have := x.isLt
  show (x.val : Int) < 32003
  omega
theorem vz_inj {x y : FP} (h : vz x = vz y) : x = y := Fin.ext (by simp only [vz] at h; omega)
theorem vz_z {x : FP} : vz x = 0 ↔ x = 0 := ⟨fun h => vz_inj h, fun h => by rw [h]; rfl⟩
/-- a number's value out of a remainder -/
theorem vz_n {z : Int} (h : 0 ≤ z) : vz (mf_n z.toNat) = z % 32003 := by
  show ((z.toNat % 32003 : Nat) : Int) = z % 32003
  omega
theorem vz_mod {z : Int} {x : FP} (h0 : 0 ≤ z) (h : mf_n z.toNat = x) : z % 32003 = vz x := by rw [← h, vz_n h0]
theorem mf_vz (x : FP) : mf_n (vz x).toNat = x := mf_n_val x
theorem mf_tn_add {a b : Int} (ha : 0 ≤ a) (hb : 0 ≤ b) : mf_n (a + b).toNat = mf_n a.toNat + mf_n b.toNat := by rw [Int.toNat_add ha hb, mf_n_add]
theorem mf_tn_mul {a b : Int} (ha : 0 ≤ a) (hb : 0 ≤ b) : mf_n (a * b).toNat = mf_n a.toNat * mf_n b.toNat := by rw [Int.toNat_mul ha hb, mf_n_mul]
theorem vz_mul_lt {x y : FP} : vz x * vz y ≤ 1024128004 := by
  have h1 : vz x * vz y ≤ 32002 * vz y := Int.mul_le_mul_of_nonneg_right (by have := vz_lt x; omega) (vz_nn y)
  have := vz_lt y
  omega
theorem vz_mul_nn {x y : FP} : 0 ≤ vz x * vz y := Int.mul_nonneg (vz_nn x) (vz_nn y)
theorem vz_m (x y : FP) : (vz x * vz y) % 32003 = vz (x * y) := vz_mod vz_mul_nn (by rw [mf_tn_mul (vz_nn x) (vz_nn y), mf_vz, mf_vz])
theorem vz_a (x y : FP) : (vz x + vz y) % 32003 = vz (x + y) := vz_mod (by have := vz_nn x; have := vz_nn y; omega) (by rw [mf_tn_add (vz_nn x) (vz_nn y), mf_vz, mf_vz])
theorem vz_am (x y z : FP) : (vz x + vz y * vz z) % 32003 = vz (x + y * z) := vz_mod (by have := vz_nn x; have := @vz_mul_nn y z; omega) (by rw [mf_tn_add (vz_nn x) vz_mul_nn, mf_tn_mul (vz_nn y) (vz_nn z), mf_vz, mf_vz, mf_vz])
theorem vz_ma (x y z : FP) : (vz x * vz y + vz z) % 32003 = vz (x * y + z) := by rw [Int.add_comm, vz_am]; congr 1; grind
theorem iZ_toInt {z : Int} (h1 : -2147483648 ≤ z) (h2 : z < 2147483648) : (iZ z).toInt = z := by
  rw [iZ, Int32.toInt_ofInt]
  exact Int.bmod_eq_of_le (by show -(4294967296 / 2) ≤ z; omega) (by show z < (4294967296 + 1) / 2; omega)
theorem iZ_add (a b : Int) : iZ a + iZ b = iZ (a + b) := (Int32.ofInt_add a b).symm
theorem iZ_sub (a b : Int) : iZ a - iZ b = iZ (a - b) := (Int32.ofInt_sub a b).symm
theorem iZ_mul (a b : Int) : iZ a * iZ b = iZ (a * b) := (Int32.ofInt_mul a b).symm
theorem iZ_of (x : Int32) : iZ x.toInt = x := Int32.ofInt_toInt x
theorem iZ_le {a b : Int} (ha : -2147483648 ≤ a ∧ a < 2147483648) (hb : -2147483648 ≤ b ∧ b < 2147483648) : iZ a ≤ iZ b ↔ a ≤ b := by rw [Int32.le_iff_toInt_le, iZ_toInt ha.1 ha.2, iZ_toInt hb.1 hb.2]
theorem iZ_lt {a b : Int} (ha : -2147483648 ≤ a ∧ a < 2147483648) (hb : -2147483648 ≤ b ∧ b < 2147483648) : iZ a < iZ b ↔ a < b := by rw [Int32.lt_iff_toInt_lt, iZ_toInt ha.1 ha.2, iZ_toInt hb.1 hb.2]
theorem iZ_eq {a b : Int} (ha : -2147483648 ≤ a ∧ a < 2147483648) (hb : -2147483648 ≤ b ∧ b < 2147483648) : iZ a = iZ b ↔ a = b := by rw [← Int32.toInt_inj, iZ_toInt ha.1 ha.2, iZ_toInt hb.1 hb.2]
theorem iZ_0 : iZ 0 = 0 := rfl
theorem iZ_nI {n : Nat} : iZ (n : Int) = nI n := rfl
theorem iZ_clamp {z : Int} (h1 : 0 ≤ z) (h2 : z < 2147483648) : (iZ z).toNatClampNeg = z.toNat := by
  obtain ⟨n, rfl⟩ := Int.eq_ofNat_of_zero_le h1
  exact nI_clamp (by omega)
theorem iZ_in {z : Int} {n : Nat} (h1 : 0 ≤ z) (h2 : z < n) (hn : n < 2147483648) : vp_in (iZ z) n := vp_in_iff.mpr (by rw [iZ_toInt (by omega) (by omega)]; exact ⟨h1, h2⟩)
theorem iZ_rem {a b : Int} (h0 : 0 ≤ a) (h1 : a < 2147483648) (h2 : 0 < b) (h3 : b < 2147483648) : iZ a - iZ a / iZ b * iZ b = iZ (a % b) := by
  obtain ⟨n, rfl⟩ := Int.eq_ofNat_of_zero_le h0
  obtain ⟨d, rfl⟩ := Int.eq_ofNat_of_zero_le (Int.le_of_lt h2)
  show nI n - nI n / nI d * nI d = _
  rw [pk_rem (by omega) (by omega) (by omega), ← iZ_nI]
  rfl
theorem iZ_div {a b : Int} (h0 : 0 ≤ a) (h1 : a < 2147483648) (h2 : 0 < b) (h3 : b < 2147483648) : iZ a / iZ b = iZ (a / b) := by
  obtain ⟨n, rfl⟩ := Int.eq_ofNat_of_zero_le h0
  obtain ⟨d, rfl⟩ := Int.eq_ofNat_of_zero_le (Int.le_of_lt h2)
  show nI n / nI d = _
  rw [pk_div (by omega) (by omega) (by omega), ← iZ_nI]
  rfl
theorem iZ_ne0 {b : Int} (h2 : 0 < b) (h3 : b < 2147483648) : ¬ iZ b = 0 := by rw [← iZ_0, iZ_eq (by omega) (by omega)]; omega
/-! the world: a cell for each place below N -/
def z_w (N : Nat) (ad : Nat → Nat) (g : Nat → va_E) : va_W := (List.range N).map (fun k => (ad k, g k))
def zInj (N : Nat) (ad : Nat → Nat) : Prop := ∀ i j, i < N → j < N → ad i = ad j → i = j
theorem z_w_get {N : Nat} {ad : Nat → Nat} {g : Nat → va_E} {k : Nat} (h : k < N) : (z_w N ad g)[k]? = some (ad k, g k) := by simp [z_w, h]
theorem z_w_some {N : Nat} {ad : Nat → Nat} {g : Nat → va_E} {k : Nat} {q : Nat × va_E} (h : (z_w N ad g)[k]? = some q) : k < N ∧ q = (ad k, g k) := by
  have hk : k < N := by
    have := (List.getElem?_eq_some_iff.mp h).1
    simpa [z_w] using this
  rw [z_w_get hk] at h
  exact ⟨hk, (Option.some.inj h).symm⟩
theorem z_w_set {N : Nat} {ad : Nat → Nat} {g : Nat → va_E} {k : Nat} {x : va_E} : (z_w N ad g).set k (ad k, x) = z_w N ad (va_up g k x) := by
  apply List.ext_getElem?
  intro j
  by_cases hj : j < N
  · rw [z_w_get hj]
    by_cases e : j = k
    · subst e
      rw [List.getElem?_set_self (by simpa [z_w] using hj), va_up_self]
    · rw [List.getElem?_set_ne (fun q => e q.symm), z_w_get hj, va_up_ne _ _ e]
  · rw [List.getElem?_eq_none (by simp [z_w]; omega), List.getElem?_eq_none (by simp [z_w]; omega)]
theorem z_w_D {N : Nat} {ad : Nat → Nat} {g : Nat → va_E} {A : Nat → Prop} (hi : zInj N ad) (hA : ∀ k, k < N → A (ad k)) : va_D A (z_w N ad g) := by
  refine ⟨fun i j p q h1 h2 h3 => ?_, fun k q h => ?_⟩
  · obtain ⟨a1, rfl⟩ := z_w_some h1
    obtain ⟨a2, rfl⟩ := z_w_some h2
    exact hi i j a1 a2 h3
  · obtain ⟨a1, rfl⟩ := z_w_some h
    exact hA k a1
/-- which cells a method may change: the world's, and those that it makes -/
def zAd (N : Nat) (ad : Nat → Nat) (sz : Nat) : Nat → Prop := fun q => (∃ k, k < N ∧ q = ad k) ∨ sz ≤ q
def zP (D : va_G) (N : Nat) (ad : Nat → Nat) (g : Nat → va_E) (H : Heap) : Prop := va_P D vwCl (z_w N ad g) H
def zKs (D : va_G) (tys : List (ClassId × FieldType)) (U : State) : Prop := va_K D vwCl tys U ∧ zNx U
theorem zKs.warm {D : va_G} {tys : List (ClassId × FieldType)} {s U : State} (hW : s.WarmedH U.vm) (h : zKs D tys s) : zKs D tys U := ⟨va_K.moved hW.alike h.1, h.2.warm hW⟩
theorem zKs.same {D : va_G} {tys : List (ClassId × FieldType)} {u U : State} (e : u.vm = U.vm) (h : zKs D tys u) : zKs D tys U := ⟨va_K.moved (by rw [e]; exact Vm.Alike.refl U.vm) h.1, h.2.same e⟩
/-- what holds all through a method -/
def zCx (p : Program) (s : State) (m : MethodId) (args : Array Value) (meth : Method) (c : Code) (cc : ByteArray) (nL : Nat) (own : String) (ret : Option FieldType) (D : va_G) (tys : List (ClassId × FieldType)) (N : Nat) (ad : Nat → Nat) (A : Nat → Prop) : Prop :=
  p.tables.exec = Jvm.exec ∧ c.code = cc ∧ c.maxLocals = nL ∧ s.vm.findClass own = some m.cls ∧ (∀ w ∈ wsG, w.before args s = true) ∧ zKs D tys s ∧ zInj N ad ∧ (∀ k, k < N → A (ad k)) ∧ (∀ q, s.heap.size ≤ q → A q) ∧ meth.sig.returnType = ret ∧ meth.locks = false
theorem zc_eq {a b : Int} (ha : -2147483648 ≤ a ∧ a < 2147483648) (hb : -2147483648 ≤ b ∧ b < 2147483648) (h : iZ a = iZ b) : a = b := (iZ_eq ha hb).mp h
theorem zc_neq {a b : Int} (ha : -2147483648 ≤ a ∧ a < 2147483648) (hb : -2147483648 ≤ b ∧ b < 2147483648) (h : ¬ iZ a = iZ b) : ¬ a = b := fun q => h ((iZ_eq ha hb).mpr q)
theorem zc_ne {a b : Int} (ha : -2147483648 ≤ a ∧ a < 2147483648) (hb : -2147483648 ≤ b ∧ b < 2147483648) (h : ¬ iZ a = iZ b) : ¬ a = b := fun q => h ((iZ_eq ha hb).mpr q)
theorem zc_nne {a b : Int} (ha : -2147483648 ≤ a ∧ a < 2147483648) (hb : -2147483648 ≤ b ∧ b < 2147483648) (h : iZ a = iZ b) : a = b := (iZ_eq ha hb).mp h
theorem zc_lt {a b : Int} (ha : -2147483648 ≤ a ∧ a < 2147483648) (hb : -2147483648 ≤ b ∧ b < 2147483648) (h : iZ a < iZ b) : a < b := (iZ_lt ha hb).mp h
theorem zc_nlt {a b : Int} (ha : -2147483648 ≤ a ∧ a < 2147483648) (hb : -2147483648 ≤ b ∧ b < 2147483648) (h : ¬ iZ a < iZ b) : ¬ a < b := fun q => h ((iZ_lt ha hb).mpr q)
theorem zc_ge {a b : Int} (ha : -2147483648 ≤ a ∧ a < 2147483648) (hb : -2147483648 ≤ b ∧ b < 2147483648) (h : iZ b ≤ iZ a) : b ≤ a := (iZ_le hb ha).mp h
theorem zc_nge {a b : Int} (ha : -2147483648 ≤ a ∧ a < 2147483648) (hb : -2147483648 ≤ b ∧ b < 2147483648) (h : ¬ iZ b ≤ iZ a) : ¬ b ≤ a := fun q => h ((iZ_le hb ha).mpr q)
theorem zc_gt {a b : Int} (ha : -2147483648 ≤ a ∧ a < 2147483648) (hb : -2147483648 ≤ b ∧ b < 2147483648) (h : iZ b < iZ a) : b < a := (iZ_lt hb ha).mp h
theorem zc_ngt {a b : Int} (ha : -2147483648 ≤ a ∧ a < 2147483648) (hb : -2147483648 ≤ b ∧ b < 2147483648) (h : ¬ iZ b < iZ a) : ¬ b < a := fun q => h ((iZ_lt hb ha).mpr q)
theorem zc_le {a b : Int} (ha : -2147483648 ≤ a ∧ a < 2147483648) (hb : -2147483648 ≤ b ∧ b < 2147483648) (h : iZ a ≤ iZ b) : a ≤ b := (iZ_le ha hb).mp h
theorem zc_nle {a b : Int} (ha : -2147483648 ≤ a ∧ a < 2147483648) (hb : -2147483648 ≤ b ∧ b < 2147483648) (h : ¬ iZ a ≤ iZ b) : ¬ a ≤ b := fun q => h ((iZ_le ha hb).mpr q)
section ZL
variable {p : Program} {l : Launch} {e : Env} {R : Room} {s : State} {m : MethodId} {args : Array Value} {below : List Frame} {meth : Method} {c : Code} {cc : ByteArray} {nL : Nat} {own : String} {ret : Option FieldType} {D : va_G} {tys : List (ClassId × FieldType)} {N : Nat} {ad : Nat → Nat} {A : Nat → Prop} {cells slots : Nat} {Q : State → Prop} {pc : Nat} {lv : List (Nat × Value)} {st : List Value} {g : Nat → va_E}
theorem zx_e (X : zCx p s m args meth c cc nL own ret D tys N ad A) : p.tables.exec = Jvm.exec := X.1
theorem zx_b (X : zCx p s m args meth c cc nL own ret D tys N ad A) : c.code = cc := X.2.1
theorem zx_m (X : zCx p s m args meth c cc nL own ret D tys N ad A) : c.maxLocals = nL := X.2.2.1
theorem zx_o (X : zCx p s m args meth c cc nL own ret D tys N ad A) : s.vm.findClass own = some m.cls := X.2.2.2.1
theorem zx_w (X : zCx p s m args meth c cc nL own ret D tys N ad A) : ∀ w ∈ wsG, w.before args s = true := X.2.2.2.2.1
theorem zx_K (X : zCx p s m args meth c cc nL own ret D tys N ad A) : zKs D tys s := X.2.2.2.2.2.1
theorem zx_I (X : zCx p s m args meth c cc nL own ret D tys N ad A) : zInj N ad := X.2.2.2.2.2.2.1
theorem zx_A (X : zCx p s m args meth c cc nL own ret D tys N ad A) : ∀ k, k < N → A (ad k) := X.2.2.2.2.2.2.2.1
theorem zx_F (X : zCx p s m args meth c cc nL own ret D tys N ad A) : ∀ q, s.heap.size ≤ q → A q := X.2.2.2.2.2.2.2.2.1
theorem zx_r (X : zCx p s m args meth c cc nL own ret D tys N ad A) : meth.sig.returnType = ret := X.2.2.2.2.2.2.2.2.2.1
theorem zx_l (X : zCx p s m args meth c cc nL own ret D tys N ad A) : meth.locks = false := X.2.2.2.2.2.2.2.2.2.2
theorem zx_n (X : zCx p s m args meth c cc nL own ret D tys N ad A) {w : Cond} (hw : w ∈ zNest) (ht : w.onTables = true) : w.before args s = true := va_Nw.use ht ((zx_K X).2 w hw)
/-- the machine at pc, with these locals and this stack, over the world g, comes to Q -/
def Z (p : Program) (l : Launch) (e : Env) (R : Room) (s : State) (m : MethodId) (args : Array Value) (below : List Frame) (meth : Method) (c : Code) (nL : Nat) (D : va_G) (N : Nat) (ad : Nat → Nat) (A : Nat → Prop) (cells slots : Nat) (Q : State → Prop) (pc : Nat) (lv : List (Nat × Value)) (st : List Value) (g : Nat → va_E) : Prop :=
  ∀ (H : Heap) (locs : List Loc) (ls : Array Slot), lv_has ls nL lv → zP D N ad g H → va_S A s.heap H locs → W p l e R s m args below meth c H locs cells slots Q (F0 m pc ls st)
theorem z_sub {lv' : List (Nat × Value)} (ks : List Nat) (hk : lv_pick lv ks = lv') (k : Z p l e R s m args below meth c nL D N ad A cells slots Q pc lv' st g) : Z p l e R s m args below meth c nL D N ad A cells slots Q pc lv st g := fun H locs ls hl hP hS => k H locs ls (lv_sub hl ks hk) hP hS
theorem z_eqg {g' : Nat → va_E} (h : g = g') (k : Z p l e R s m args below meth c nL D N ad A cells slots Q pc lv st g') : Z p l e R s m args below meth c nL D N ad A cells slots Q pc lv st g := h ▸ k
theorem z_eqi {a b : Int} (h : a = b) (k : Z p l e R s m args below meth c nL D N ad A cells slots Q pc lv (.int (iZ b) :: st) g) : Z p l e R s m args below meth c nL D N ad A cells slots Q pc lv (.int (iZ a) :: st) g := h ▸ k
theorem z_eql {lv' : List (Nat × Value)} (h : lv = lv') (k : Z p l e R s m args below meth c nL D N ad A cells slots Q pc lv' st g) : Z p l e R s m args below meth c nL D N ad A cells slots Q pc lv st g := h ▸ k
theorem z_iconst (X : zCx p s m args meth c cc nL own ret D tys N ad A) {n : Int} (hd : decode cc pc = .ok (.iconst n, 1)) (k : Z p l e R s m args below meth c nL D N ad A cells slots Q (pc + 1) lv (.int (iZ n) :: st) g) : Z p l e R s m args below meth c nL D N ad A cells slots Q pc lv st g := fun H locs ls hl hP hS => lv_iconst (v := iZ n) (zx_e X) (zx_b X) hd rfl (k H locs ls hl hP hS)
theorem z_bipush (X : zCx p s m args meth c cc nL own ret D tys N ad A) {n : Int} (hn : (Int8.ofInt n).toInt32 = iZ n) (hd : decode cc pc = .ok (.bipush n, 2)) (k : Z p l e R s m args below meth c nL D N ad A cells slots Q (pc + 2) lv (.int (iZ n) :: st) g) : Z p l e R s m args below meth c nL D N ad A cells slots Q pc lv st g := fun H locs ls hl hP hS => lv_bipush (v := iZ n) (zx_e X) (zx_b X) hd hn (k H locs ls hl hP hS)
theorem z_sipush (X : zCx p s m args meth c cc nL own ret D tys N ad A) {n : Int} (hn : (Int16.ofInt n).toInt32 = iZ n) (hd : decode cc pc = .ok (.sipush n, 3)) (k : Z p l e R s m args below meth c nL D N ad A cells slots Q (pc + 3) lv (.int (iZ n) :: st) g) : Z p l e R s m args below meth c nL D N ad A cells slots Q pc lv st g := fun H locs ls hl hP hS => lv_sipush (v := iZ n) (zx_e X) (zx_b X) hd hn (k H locs ls hl hP hS)
theorem z_iload_n (X : zCx p s m args meth c cc nL own ret D tys N ad A) {i : Nat} {x : Int32} {q : Fin 4} (j : Nat) (hj : lv[j]? = some (i, .int x)) (hi : (q : Nat) = i) (hd : decode cc pc = .ok (.iload_n q, 1)) (k : Z p l e R s m args below meth c nL D N ad A cells slots Q (pc + 1) lv (.int x :: st) g) : Z p l e R s m args below meth c nL D N ad A cells slots Q pc lv st g := fun H locs ls hl hP hS => lv_iload_n (zx_e X) (zx_b X) hd hi (lv_at hl j hj) (k H locs ls hl hP hS)
theorem z_iload (X : zCx p s m args meth c cc nL own ret D tys N ad A) {i : Nat} {x : Int32} (j : Nat) (hj : lv[j]? = some (i, .int x)) (hd : decode cc pc = .ok (.iload i, 2)) (k : Z p l e R s m args below meth c nL D N ad A cells slots Q (pc + 2) lv (.int x :: st) g) : Z p l e R s m args below meth c nL D N ad A cells slots Q pc lv st g := fun H locs ls hl hP hS => lv_iload (zx_e X) (zx_b X) hd (lv_at hl j hj) (k H locs ls hl hP hS)
theorem z_lload_n (X : zCx p s m args meth c cc nL own ret D tys N ad A) {i : Nat} {x : Int64} {q : Fin 4} (j : Nat) (hj : lv[j]? = some (i, .long x)) (hi : (q : Nat) = i) (hd : decode cc pc = .ok (.lload_n q, 1)) (k : Z p l e R s m args below meth c nL D N ad A cells slots Q (pc + 1) lv (.long x :: st) g) : Z p l e R s m args below meth c nL D N ad A cells slots Q pc lv st g := fun H locs ls hl hP hS => lv_lload_n (zx_e X) (zx_b X) hd hi (lv_at hl j hj) (k H locs ls hl hP hS)
theorem z_lload (X : zCx p s m args meth c cc nL own ret D tys N ad A) {i : Nat} {x : Int64} (j : Nat) (hj : lv[j]? = some (i, .long x)) (hd : decode cc pc = .ok (.lload i, 2)) (k : Z p l e R s m args below meth c nL D N ad A cells slots Q (pc + 2) lv (.long x :: st) g) : Z p l e R s m args below meth c nL D N ad A cells slots Q pc lv st g := fun H locs ls hl hP hS => lv_lload (zx_e X) (zx_b X) hd (lv_at hl j hj) (k H locs ls hl hP hS)
theorem z_aload_n (X : zCx p s m args meth c cc nL own ret D tys N ad A) {i x : Nat} {q : Fin 4} (j : Nat) (hj : lv[j]? = some (i, .ref x)) (hi : (q : Nat) = i) (hd : decode cc pc = .ok (.aload_n q, 1)) (k : Z p l e R s m args below meth c nL D N ad A cells slots Q (pc + 1) lv (.ref x :: st) g) : Z p l e R s m args below meth c nL D N ad A cells slots Q pc lv st g := fun H locs ls hl hP hS => lv_aload_n (zx_e X) (zx_b X) hd hi (lv_at hl j hj) (k H locs ls hl hP hS)
theorem z_aload (X : zCx p s m args meth c cc nL own ret D tys N ad A) {i x : Nat} (j : Nat) (hj : lv[j]? = some (i, .ref x)) (hd : decode cc pc = .ok (.aload i, 2)) (k : Z p l e R s m args below meth c nL D N ad A cells slots Q (pc + 2) lv (.ref x :: st) g) : Z p l e R s m args below meth c nL D N ad A cells slots Q pc lv st g := fun H locs ls hl hP hS => lv_aload (zx_e X) (zx_b X) hd (lv_at hl j hj) (k H locs ls hl hP hS)
theorem z_istore_n (X : zCx p s m args meth c cc nL own ret D tys N ad A) {i : Nat} {x : Int32} {q : Fin 4} (lv' : List (Nat × Value)) (hv : (i, Value.int x) :: lv.filter (fun q => !(q.1 == i) && !(q.1 + 1 == i && q.2.category == 2)) = lv') (hi : (q : Nat) = i) (hn : i < nL) (hd : decode cc pc = .ok (.istore_n q, 1)) (k : Z p l e R s m args below meth c nL D N ad A cells slots Q (pc + 1) lv' st g) : Z p l e R s m args below meth c nL D N ad A cells slots Q pc lv (.int x :: st) g := fun H locs ls hl hP hS => lv_istore_n (zx_e X) (zx_b X) hd hi hl hn hv (fun ls hl => k H locs ls hl hP hS)
theorem z_istore (X : zCx p s m args meth c cc nL own ret D tys N ad A) {i : Nat} {x : Int32} (lv' : List (Nat × Value)) (hv : (i, Value.int x) :: lv.filter (fun q => !(q.1 == i) && !(q.1 + 1 == i && q.2.category == 2)) = lv') (hn : i < nL) (hd : decode cc pc = .ok (.istore i, 2)) (k : Z p l e R s m args below meth c nL D N ad A cells slots Q (pc + 2) lv' st g) : Z p l e R s m args below meth c nL D N ad A cells slots Q pc lv (.int x :: st) g := fun H locs ls hl hP hS => lv_istore (zx_e X) (zx_b X) hd hl hn hv (fun ls hl => k H locs ls hl hP hS)
theorem z_astore_n (X : zCx p s m args meth c cc nL own ret D tys N ad A) {i : Nat} {x : Nat} {q : Fin 4} (lv' : List (Nat × Value)) (hv : (i, Value.ref x) :: lv.filter (fun q => !(q.1 == i) && !(q.1 + 1 == i && q.2.category == 2)) = lv') (hi : (q : Nat) = i) (hn : i < nL) (hd : decode cc pc = .ok (.astore_n q, 1)) (k : Z p l e R s m args below meth c nL D N ad A cells slots Q (pc + 1) lv' st g) : Z p l e R s m args below meth c nL D N ad A cells slots Q pc lv (.ref x :: st) g := fun H locs ls hl hP hS => lv_astore_n (zx_e X) (zx_b X) hd hi hl hn hv (fun ls hl => k H locs ls hl hP hS)
theorem z_astore (X : zCx p s m args meth c cc nL own ret D tys N ad A) {i : Nat} {x : Nat} (lv' : List (Nat × Value)) (hv : (i, Value.ref x) :: lv.filter (fun q => !(q.1 == i) && !(q.1 + 1 == i && q.2.category == 2)) = lv') (hn : i < nL) (hd : decode cc pc = .ok (.astore i, 2)) (k : Z p l e R s m args below meth c nL D N ad A cells slots Q (pc + 2) lv' st g) : Z p l e R s m args below meth c nL D N ad A cells slots Q pc lv (.ref x :: st) g := fun H locs ls hl hP hS => lv_astore (zx_e X) (zx_b X) hd hl hn hv (fun ls hl => k H locs ls hl hP hS)
theorem z_lstore_n (X : zCx p s m args meth c cc nL own ret D tys N ad A) {i : Nat} {x : Int64} {q : Fin 4} (lv' : List (Nat × Value)) (hv : (i, Value.long x) :: lv.filter (fun q => !(q.1 == i) && (!(q.1 == i + 1) && !(q.1 + 1 == i && q.2.category == 2))) = lv') (hi : (q : Nat) = i) (hn : i + 1 < nL) (hd : decode cc pc = .ok (.lstore_n q, 1)) (k : Z p l e R s m args below meth c nL D N ad A cells slots Q (pc + 1) lv' st g) : Z p l e R s m args below meth c nL D N ad A cells slots Q pc lv (.long x :: st) g := fun H locs ls hl hP hS => lv_lstore_n (zx_e X) (zx_b X) hd hi hl hn hv (fun ls hl => k H locs ls hl hP hS)
theorem z_lstore (X : zCx p s m args meth c cc nL own ret D tys N ad A) {i : Nat} {x : Int64} (lv' : List (Nat × Value)) (hv : (i, Value.long x) :: lv.filter (fun q => !(q.1 == i) && (!(q.1 == i + 1) && !(q.1 + 1 == i && q.2.category == 2))) = lv') (hn : i + 1 < nL) (hd : decode cc pc = .ok (.lstore i, 2)) (k : Z p l e R s m args below meth c nL D N ad A cells slots Q (pc + 2) lv' st g) : Z p l e R s m args below meth c nL D N ad A cells slots Q pc lv (.long x :: st) g := fun H locs ls hl hP hS => lv_lstore (zx_e X) (zx_b X) hd hl hn hv (fun ls hl => k H locs ls hl hP hS)
theorem z_iinc (X : zCx p s m args meth c cc nL own ret D tys N ad A) {i : Nat} {a n : Int} (lv' : List (Nat × Value)) (j : Nat) (hj : lv[j]? = some (i, .int (iZ a))) (hv : (i, Value.int (iZ (a + n))) :: lv.filter (fun q => !(q.1 == i) && !(q.1 + 1 == i && q.2.category == 2)) = lv') (hn : i < nL) (hd : decode cc pc = .ok (.iinc i n, 3)) (k : Z p l e R s m args below meth c nL D N ad A cells slots Q (pc + 3) lv' st g) : Z p l e R s m args below meth c nL D N ad A cells slots Q pc lv st g := fun H locs ls hl hP hS => lv_iinc (v := iZ (a + n)) (zx_e X) (zx_b X) hd hl hj (iZ_add a n) hn hv (fun ls hl => k H locs ls hl hP hS)
theorem z_iadd (X : zCx p s m args meth c cc nL own ret D tys N ad A) {a b : Int} (hd : decode cc pc = .ok (.iadd, 1)) (k : Z p l e R s m args below meth c nL D N ad A cells slots Q (pc + 1) lv (.int (iZ (a + b)) :: st) g) : Z p l e R s m args below meth c nL D N ad A cells slots Q pc lv (.int (iZ b) :: .int (iZ a) :: st) g := fun H locs ls hl hP hS => lv_iadd (zx_e X) (zx_b X) hd (by rw [iZ_add]; exact k H locs ls hl hP hS)
theorem z_isub (X : zCx p s m args meth c cc nL own ret D tys N ad A) {a b : Int} (hd : decode cc pc = .ok (.isub, 1)) (k : Z p l e R s m args below meth c nL D N ad A cells slots Q (pc + 1) lv (.int (iZ (a - b)) :: st) g) : Z p l e R s m args below meth c nL D N ad A cells slots Q pc lv (.int (iZ b) :: .int (iZ a) :: st) g := fun H locs ls hl hP hS => lv_isub (zx_e X) (zx_b X) hd (by rw [iZ_sub]; exact k H locs ls hl hP hS)
theorem z_imul (X : zCx p s m args meth c cc nL own ret D tys N ad A) {a b : Int} (hd : decode cc pc = .ok (.imul, 1)) (k : Z p l e R s m args below meth c nL D N ad A cells slots Q (pc + 1) lv (.int (iZ (a * b)) :: st) g) : Z p l e R s m args below meth c nL D N ad A cells slots Q pc lv (.int (iZ b) :: .int (iZ a) :: st) g := fun H locs ls hl hP hS => lv_imul (zx_e X) (zx_b X) hd (by rw [iZ_mul]; exact k H locs ls hl hP hS)
theorem z_irem (X : zCx p s m args meth c cc nL own ret D tys N ad A) {a b : Int} (h0 : 0 ≤ a) (h1 : a < 2147483648) (h2 : 0 < b) (h3 : b < 2147483648) (hd : decode cc pc = .ok (.irem, 1)) (k : Z p l e R s m args below meth c nL D N ad A cells slots Q (pc + 1) lv (.int (iZ (a % b)) :: st) g) : Z p l e R s m args below meth c nL D N ad A cells slots Q pc lv (.int (iZ b) :: .int (iZ a) :: st) g := fun H locs ls hl hP hS => lv_irem (zx_e X) (zx_b X) hd (iZ_ne0 h2 h3) (by rw [iZ_rem h0 h1 h2 h3]; exact k H locs ls hl hP hS)
theorem z_idiv (X : zCx p s m args meth c cc nL own ret D tys N ad A) {a b : Int} (h0 : 0 ≤ a) (h1 : a < 2147483648) (h2 : 0 < b) (h3 : b < 2147483648) (hd : decode cc pc = .ok (.idiv, 1)) (k : Z p l e R s m args below meth c nL D N ad A cells slots Q (pc + 1) lv (.int (iZ (a / b)) :: st) g) : Z p l e R s m args below meth c nL D N ad A cells slots Q pc lv (.int (iZ b) :: .int (iZ a) :: st) g := fun H locs ls hl hP hS => lv_idiv (zx_e X) (zx_b X) hd (iZ_ne0 h2 h3) (by rw [iZ_div h0 h1 h2 h3]; exact k H locs ls hl hP hS)
theorem z_ineg (X : zCx p s m args meth c cc nL own ret D tys N ad A) {a : Int} (hd : decode cc pc = .ok (.ineg, 1)) (k : Z p l e R s m args below meth c nL D N ad A cells slots Q (pc + 1) lv (.int (iZ (-a)) :: st) g) : Z p l e R s m args below meth c nL D N ad A cells slots Q pc lv (.int (iZ a) :: st) g := fun H locs ls hl hP hS => lv_ineg (zx_e X) (zx_b X) hd (by rw [show (-iZ a : Int32) = iZ (-a) from (Int32.ofInt_neg a).symm]; exact k H locs ls hl hP hS)
theorem z_pop (X : zCx p s m args meth c cc nL own ret D tys N ad A) {v : Value} (hv : v.category = 1) (hd : decode cc pc = .ok (.pop, 1)) (k : Z p l e R s m args below meth c nL D N ad A cells slots Q (pc + 1) lv st g) : Z p l e R s m args below meth c nL D N ad A cells slots Q pc lv (v :: st) g := fun H locs ls hl hP hS => lv_pop (zx_e X) (zx_b X) hd hv (k H locs ls hl hP hS)
theorem z_dup (X : zCx p s m args meth c cc nL own ret D tys N ad A) {v : Value} (hv : v.category = 1) (hd : decode cc pc = .ok (.dup, 1)) (k : Z p l e R s m args below meth c nL D N ad A cells slots Q (pc + 1) lv (v :: v :: st) g) : Z p l e R s m args below meth c nL D N ad A cells slots Q pc lv (v :: st) g := fun H locs ls hl hP hS => lv_dup (zx_e X) (zx_b X) hd hv (k H locs ls hl hP hS)
theorem z_icmp_eq (X : zCx p s m args meth c cc nL own ret D tys N ad A) {a b off : Int} {tgt : Nat} (ha : -2147483648 ≤ a ∧ a < 2147483648) (hb : -2147483648 ≤ b ∧ b < 2147483648) (hd : decode cc pc = .ok (.if_icmp .eq off, 3)) (ht : (pc : Int) + off = (tgt : Int)) (kt : a = b → Z p l e R s m args below meth c nL D N ad A cells slots Q tgt lv st g) (kf : ¬ (a = b) → Z p l e R s m args below meth c nL D N ad A cells slots Q (pc + 3) lv st g) : Z p l e R s m args below meth c nL D N ad A cells slots Q pc lv (.int (iZ b) :: .int (iZ a) :: st) g := fun H locs ls hl hP hS => lv_icmp_eq (zx_e X) (zx_b X) hd ht (fun q => kt (zc_eq ha hb q) H locs ls hl hP hS) (fun q => kf (zc_neq ha hb q) H locs ls hl hP hS)
theorem z_icmp_ne (X : zCx p s m args meth c cc nL own ret D tys N ad A) {a b off : Int} {tgt : Nat} (ha : -2147483648 ≤ a ∧ a < 2147483648) (hb : -2147483648 ≤ b ∧ b < 2147483648) (hd : decode cc pc = .ok (.if_icmp .ne off, 3)) (ht : (pc : Int) + off = (tgt : Int)) (kt : ¬ a = b → Z p l e R s m args below meth c nL D N ad A cells slots Q tgt lv st g) (kf : a = b → Z p l e R s m args below meth c nL D N ad A cells slots Q (pc + 3) lv st g) : Z p l e R s m args below meth c nL D N ad A cells slots Q pc lv (.int (iZ b) :: .int (iZ a) :: st) g := fun H locs ls hl hP hS => lv_icmp_ne (zx_e X) (zx_b X) hd ht (fun q => kt (zc_ne ha hb q) H locs ls hl hP hS) (fun q => kf (zc_nne ha hb q) H locs ls hl hP hS)
theorem z_icmp_lt (X : zCx p s m args meth c cc nL own ret D tys N ad A) {a b off : Int} {tgt : Nat} (ha : -2147483648 ≤ a ∧ a < 2147483648) (hb : -2147483648 ≤ b ∧ b < 2147483648) (hd : decode cc pc = .ok (.if_icmp .lt off, 3)) (ht : (pc : Int) + off = (tgt : Int)) (kt : a < b → Z p l e R s m args below meth c nL D N ad A cells slots Q tgt lv st g) (kf : ¬ (a < b) → Z p l e R s m args below meth c nL D N ad A cells slots Q (pc + 3) lv st g) : Z p l e R s m args below meth c nL D N ad A cells slots Q pc lv (.int (iZ b) :: .int (iZ a) :: st) g := fun H locs ls hl hP hS => lv_icmp_lt (zx_e X) (zx_b X) hd ht (fun q => kt (zc_lt ha hb q) H locs ls hl hP hS) (fun q => kf (zc_nlt ha hb q) H locs ls hl hP hS)
theorem z_icmp_ge (X : zCx p s m args meth c cc nL own ret D tys N ad A) {a b off : Int} {tgt : Nat} (ha : -2147483648 ≤ a ∧ a < 2147483648) (hb : -2147483648 ≤ b ∧ b < 2147483648) (hd : decode cc pc = .ok (.if_icmp .ge off, 3)) (ht : (pc : Int) + off = (tgt : Int)) (kt : b ≤ a → Z p l e R s m args below meth c nL D N ad A cells slots Q tgt lv st g) (kf : ¬ (b ≤ a) → Z p l e R s m args below meth c nL D N ad A cells slots Q (pc + 3) lv st g) : Z p l e R s m args below meth c nL D N ad A cells slots Q pc lv (.int (iZ b) :: .int (iZ a) :: st) g := fun H locs ls hl hP hS => lv_icmp_ge (zx_e X) (zx_b X) hd ht (fun q => kt (zc_ge ha hb q) H locs ls hl hP hS) (fun q => kf (zc_nge ha hb q) H locs ls hl hP hS)
theorem z_icmp_gt (X : zCx p s m args meth c cc nL own ret D tys N ad A) {a b off : Int} {tgt : Nat} (ha : -2147483648 ≤ a ∧ a < 2147483648) (hb : -2147483648 ≤ b ∧ b < 2147483648) (hd : decode cc pc = .ok (.if_icmp .gt off, 3)) (ht : (pc : Int) + off = (tgt : Int)) (kt : b < a → Z p l e R s m args below meth c nL D N ad A cells slots Q tgt lv st g) (kf : ¬ (b < a) → Z p l e R s m args below meth c nL D N ad A cells slots Q (pc + 3) lv st g) : Z p l e R s m args below meth c nL D N ad A cells slots Q pc lv (.int (iZ b) :: .int (iZ a) :: st) g := fun H locs ls hl hP hS => lv_icmp_gt (zx_e X) (zx_b X) hd ht (fun q => kt (zc_gt ha hb q) H locs ls hl hP hS) (fun q => kf (zc_ngt ha hb q) H locs ls hl hP hS)
theorem z_icmp_le (X : zCx p s m args meth c cc nL own ret D tys N ad A) {a b off : Int} {tgt : Nat} (ha : -2147483648 ≤ a ∧ a < 2147483648) (hb : -2147483648 ≤ b ∧ b < 2147483648) (hd : decode cc pc = .ok (.if_icmp .le off, 3)) (ht : (pc : Int) + off = (tgt : Int)) (kt : a ≤ b → Z p l e R s m args below meth c nL D N ad A cells slots Q tgt lv st g) (kf : ¬ (a ≤ b) → Z p l e R s m args below meth c nL D N ad A cells slots Q (pc + 3) lv st g) : Z p l e R s m args below meth c nL D N ad A cells slots Q pc lv (.int (iZ b) :: .int (iZ a) :: st) g := fun H locs ls hl hP hS => lv_icmp_le (zx_e X) (zx_b X) hd ht (fun q => kt (zc_le ha hb q) H locs ls hl hP hS) (fun q => kf (zc_nle ha hb q) H locs ls hl hP hS)
theorem z_if_eq (X : zCx p s m args meth c cc nL own ret D tys N ad A) {a off : Int} {tgt : Nat} (ha : -2147483648 ≤ a ∧ a < 2147483648) (hd : decode cc pc = .ok (.ifCond .eq off, 3)) (ht : (pc : Int) + off = (tgt : Int)) (kt : a = 0 → Z p l e R s m args below meth c nL D N ad A cells slots Q tgt lv st g) (kf : ¬ (a = 0) → Z p l e R s m args below meth c nL D N ad A cells slots Q (pc + 3) lv st g) : Z p l e R s m args below meth c nL D N ad A cells slots Q pc lv (.int (iZ a) :: st) g := fun H locs ls hl hP hS => lv_if_eq (zx_e X) (zx_b X) hd ht (fun q => kt (zc_eq (b := 0) ha (by omega) q) H locs ls hl hP hS) (fun q => kf (zc_neq (b := 0) ha (by omega) q) H locs ls hl hP hS)
theorem z_if_ne (X : zCx p s m args meth c cc nL own ret D tys N ad A) {a off : Int} {tgt : Nat} (ha : -2147483648 ≤ a ∧ a < 2147483648) (hd : decode cc pc = .ok (.ifCond .ne off, 3)) (ht : (pc : Int) + off = (tgt : Int)) (kt : ¬ a = 0 → Z p l e R s m args below meth c nL D N ad A cells slots Q tgt lv st g) (kf : a = 0 → Z p l e R s m args below meth c nL D N ad A cells slots Q (pc + 3) lv st g) : Z p l e R s m args below meth c nL D N ad A cells slots Q pc lv (.int (iZ a) :: st) g := fun H locs ls hl hP hS => lv_if_ne (zx_e X) (zx_b X) hd ht (fun q => kt (zc_ne (b := 0) ha (by omega) q) H locs ls hl hP hS) (fun q => kf (zc_nne (b := 0) ha (by omega) q) H locs ls hl hP hS)
theorem z_if_lt (X : zCx p s m args meth c cc nL own ret D tys N ad A) {a off : Int} {tgt : Nat} (ha : -2147483648 ≤ a ∧ a < 2147483648) (hd : decode cc pc = .ok (.ifCond .lt off, 3)) (ht : (pc : Int) + off = (tgt : Int)) (kt : a < 0 → Z p l e R s m args below meth c nL D N ad A cells slots Q tgt lv st g) (kf : ¬ (a < 0) → Z p l e R s m args below meth c nL D N ad A cells slots Q (pc + 3) lv st g) : Z p l e R s m args below meth c nL D N ad A cells slots Q pc lv (.int (iZ a) :: st) g := fun H locs ls hl hP hS => lv_if_lt (zx_e X) (zx_b X) hd ht (fun q => kt (zc_lt (b := 0) ha (by omega) q) H locs ls hl hP hS) (fun q => kf (zc_nlt (b := 0) ha (by omega) q) H locs ls hl hP hS)
theorem z_if_ge (X : zCx p s m args meth c cc nL own ret D tys N ad A) {a off : Int} {tgt : Nat} (ha : -2147483648 ≤ a ∧ a < 2147483648) (hd : decode cc pc = .ok (.ifCond .ge off, 3)) (ht : (pc : Int) + off = (tgt : Int)) (kt : 0 ≤ a → Z p l e R s m args below meth c nL D N ad A cells slots Q tgt lv st g) (kf : ¬ (0 ≤ a) → Z p l e R s m args below meth c nL D N ad A cells slots Q (pc + 3) lv st g) : Z p l e R s m args below meth c nL D N ad A cells slots Q pc lv (.int (iZ a) :: st) g := fun H locs ls hl hP hS => lv_if_ge (zx_e X) (zx_b X) hd ht (fun q => kt (zc_ge (b := 0) ha (by omega) q) H locs ls hl hP hS) (fun q => kf (zc_nge (b := 0) ha (by omega) q) H locs ls hl hP hS)
theorem z_if_gt (X : zCx p s m args meth c cc nL own ret D tys N ad A) {a off : Int} {tgt : Nat} (ha : -2147483648 ≤ a ∧ a < 2147483648) (hd : decode cc pc = .ok (.ifCond .gt off, 3)) (ht : (pc : Int) + off = (tgt : Int)) (kt : 0 < a → Z p l e R s m args below meth c nL D N ad A cells slots Q tgt lv st g) (kf : ¬ (0 < a) → Z p l e R s m args below meth c nL D N ad A cells slots Q (pc + 3) lv st g) : Z p l e R s m args below meth c nL D N ad A cells slots Q pc lv (.int (iZ a) :: st) g := fun H locs ls hl hP hS => lv_if_gt (zx_e X) (zx_b X) hd ht (fun q => kt (zc_gt (b := 0) ha (by omega) q) H locs ls hl hP hS) (fun q => kf (zc_ngt (b := 0) ha (by omega) q) H locs ls hl hP hS)
theorem z_if_le (X : zCx p s m args meth c cc nL own ret D tys N ad A) {a off : Int} {tgt : Nat} (ha : -2147483648 ≤ a ∧ a < 2147483648) (hd : decode cc pc = .ok (.ifCond .le off, 3)) (ht : (pc : Int) + off = (tgt : Int)) (kt : a ≤ 0 → Z p l e R s m args below meth c nL D N ad A cells slots Q tgt lv st g) (kf : ¬ (a ≤ 0) → Z p l e R s m args below meth c nL D N ad A cells slots Q (pc + 3) lv st g) : Z p l e R s m args below meth c nL D N ad A cells slots Q pc lv (.int (iZ a) :: st) g := fun H locs ls hl hP hS => lv_if_le (zx_e X) (zx_b X) hd ht (fun q => kt (zc_le (b := 0) ha (by omega) q) H locs ls hl hP hS) (fun q => kf (zc_nle (b := 0) ha (by omega) q) H locs ls hl hP hS)
theorem z_goto (X : zCx p s m args meth c cc nL own ret D tys N ad A) {off : Int} {tgt : Nat} (hd : decode cc pc = .ok (.goto off, 3)) (ht : (pc : Int) + off = (tgt : Int)) (k : Z p l e R s m args below meth c nL D N ad A cells slots Q tgt lv st g) : Z p l e R s m args below meth c nL D N ad A cells slots Q pc lv st g := fun H locs ls hl hP hS => lv_goto (zx_e X) (zx_b X) hd ht (k H locs ls hl hP hS)
theorem z_ldc (X : zCx p s m args meth c cc nL own ret D tys N ad A) {index : Nat} {v : Int32} (hc : Cond.constant own index v ∈ wsG) (hd : decode cc pc = .ok (.ldc index, 2)) (k : Z p l e R s m args below meth c nL D N ad A cells slots Q (pc + 2) lv (.int v :: st) g) : Z p l e R s m args below meth c nL D N ad A cells slots Q pc lv st g := fun H locs ls hl hP hS => lv_ldc (zx_e X) (zx_b X) (zx_o X) (zx_w X _ hc) hd (k H locs ls hl hP hS)
theorem z_ldc2 (X : zCx p s m args meth c cc nL own ret D tys N ad A) {index : Nat} {v : Int64} (hc : Cond.constantLong own index v ∈ wsG) (hd : decode cc pc = .ok (.ldc2_w index, 3)) (k : Z p l e R s m args below meth c nL D N ad A cells slots Q (pc + 3) lv (.long v :: st) g) : Z p l e R s m args below meth c nL D N ad A cells slots Q pc lv st g := fun H locs ls hl hP hS => lv_ldc2 (zx_e X) (zx_b X) (zx_o X) (zx_w X _ hc) hd (k H locs ls hl hP hS)
theorem z_get (X : zCx p s m args meth c cc nL own ret D tys N ad A) {ref C : String} {T : u_T} {NF ci index : Nat} (hin : ∀ w ∈ u_ws C T NF, w ∈ wsG) (a : Nat) (hN : a < N) {fs : List Value} (he : g a = .inr (ci, fs)) (hc : vwCl[ci]? = some (C, T, NF)) (q : Nat) (hq : q < NF) (hlink : Cond.fieldLink own index ref (T q).2.1 (T q).2.2.1 ∈ wsG) (hsame : (T q).1 = ref) {v : Value} (hv : fs[q]? = some v) (hd : decode cc pc = .ok (.getfield index, 3)) (k : Z p l e R s m args below meth c nL D N ad A cells slots Q (pc + 3) lv (v :: st) g) : Z p l e R s m args below meth c nL D N ad A cells slots Q pc lv (.ref (ad a) :: st) g := fun H locs ls hl hP hS => va_get (zx_e X) (zx_b X) (zx_w X) hin (zx_o X) (zx_K X).1 hP a (by rw [z_w_get hN, he]) hc q hq (zx_w X _ hlink) (fun _ h => by rw [← hsame]; exact h) hv hd (k H locs ls hl hP hS)
theorem z_getN (X : zCx p s m args meth c cc nL own ret D tys N ad A) {ref C host : String} {T : u_T} {NF ci index : Nat} (hin : ∀ w ∈ u_ws C T NF, w ∈ wsG) (a : Nat) (hN : a < N) {fs : List Value} (he : g a = .inr (ci, fs)) (hc : vwCl[ci]? = some (C, T, NF)) (q : Nat) (hq : q < NF) (hlink : Cond.fieldLinkNest own index ref (T q).2.1 (T q).2.2.1 host ∈ zNest) (hsame : (T q).1 = ref) {v : Value} (hv : fs[q]? = some v) (hd : decode cc pc = .ok (.getfield index, 3)) (k : Z p l e R s m args below meth c nL D N ad A cells slots Q (pc + 3) lv (v :: st) g) : Z p l e R s m args below meth c nL D N ad A cells slots Q pc lv (.ref (ad a) :: st) g := fun H locs ls hl hP hS => va_getN (zx_e X) (zx_b X) (zx_w X) hin (zx_o X) (zx_K X).1 hP a (by rw [z_w_get hN, he]) hc q hq (zx_n X hlink rfl) (fun _ h => by rw [← hsame]; exact h) hv hd (k H locs ls hl hP hS)
theorem z_put (X : zCx p s m args meth c cc nL own ret D tys N ad A) {ref C : String} {T : u_T} {NF ci index : Nat} (hin : ∀ w ∈ u_ws C T NF, w ∈ wsG) (ty0 : Nat → FieldType) (hty : ∀ k, k < NF → parseFieldDescriptor (T k).2.2.1 = some (ty0 k)) (hnm : ∀ a, a < NF → ∀ b, b < NF → a ≠ b → (T a).2.1 ≠ (T b).2.1) (a : Nat) (hN : a < N) {fs : List Value} (he : g a = .inr (ci, fs)) (hc : vwCl[ci]? = some (C, T, NF)) (q : Nat) (hq : q < NF) (hlink : Cond.fieldLink own index ref (T q).2.1 (T q).2.2.1 ∈ wsG) (hsame : (T q).1 = ref) (hfin : (T q).2.2.2 = false) {ty : FieldType} {v : Value} (hdd : parseFieldDescriptor (T q).2.2.1 = some ty) (hn : narrow ty v = v) (hfit : fits ty v = true) (hl9 : q < fs.length) (hd : decode cc pc = .ok (.putfield index, 3)) (k : Z p l e R s m args below meth c nL D N ad A cells slots Q (pc + 3) lv st (va_up g a (.inr (ci, fs.set q v)))) : Z p l e R s m args below meth c nL D N ad A cells slots Q pc lv (v :: .ref (ad a) :: st) g := fun H locs ls hl hP hS => va_put (zx_e X) (zx_b X) (zx_w X) hin ty0 hty hnm (zx_o X) (zx_K X).1 hP (z_w_D (zx_I X) (zx_A X)) hS a (by rw [z_w_get hN, he]) hc q hq (zx_w X _ hlink) (fun _ h => by rw [← hsame]; exact h) hfin hdd hn hfit hl9 hd (fun H1 locs1 hP1 _ hS1 => k H1 locs1 ls hl (by rw [z_w_set] at hP1; exact hP1) hS1)
theorem z_iald (X : zCx p s m args meth c cc nL own ret D tys N ad A) (a t0 : Nat) (hN : a < N) {cA : ClassId} {n : Nat} {f : Nat → Int32} {i : Int} (he : g a = .inl (cA, n, .inl f)) (ht : tys[t0]? = some (cA, .int)) (h0 : 0 ≤ i) (h1 : i < n) (hn : n < 2147483648) (hd : decode cc pc = .ok (.iaload, 1)) (k : Z p l e R s m args below meth c nL D N ad A cells slots Q (pc + 1) lv (.int (f i.toNat) :: st) g) : Z p l e R s m args below meth c nL D N ad A cells slots Q pc lv (.int (iZ i) :: .ref (ad a) :: st) g := fun H locs ls hl hP hS => va_iald (zx_e X) (zx_b X) (zx_K X).1 hP a t0 (by rw [z_w_get hN, he]) ht (iZ_in h0 h1 hn) hd (by rw [iZ_clamp h0 (by omega)]; exact k H locs ls hl hP hS)
theorem z_iast (X : zCx p s m args meth c cc nL own ret D tys N ad A) (a t0 : Nat) (hN : a < N) {cA : ClassId} {n : Nat} {f : Nat → Int32} {i : Int} {x : Int32} (he : g a = .inl (cA, n, .inl f)) (ht : tys[t0]? = some (cA, .int)) (h0 : 0 ≤ i) (h1 : i < n) (hn : n < 2147483648) (hd : decode cc pc = .ok (.iastore, 1)) (k : Z p l e R s m args below meth c nL D N ad A cells slots Q (pc + 1) lv st (va_up g a (.inl (cA, n, .inl (upd f i.toNat x))))) : Z p l e R s m args below meth c nL D N ad A cells slots Q pc lv (.int x :: .int (iZ i) :: .ref (ad a) :: st) g := fun H locs ls hl hP hS => va_iast (zx_e X) (zx_b X) (zx_K X).1 hP (z_w_D (zx_I X) (zx_A X)) hS a t0 (by rw [z_w_get hN, he]) ht (iZ_in h0 h1 hn) hd (fun H1 locs1 hP1 _ hS1 => k H1 locs1 ls hl (by rw [z_w_set, iZ_clamp h0 (by omega)] at hP1; exact hP1) hS1)
theorem z_alen (X : zCx p s m args meth c cc nL own ret D tys N ad A) (a t0 : Nat) (hN : a < N) {cA : ClassId} {x : vp_A} {ty : FieldType} (he : g a = .inl (cA, x)) (ht : tys[t0]? = some (cA, ty)) (hd : decode cc pc = .ok (.arraylength, 1)) (k : Z p l e R s m args below meth c nL D N ad A cells slots Q (pc + 1) lv (.int (iZ (x.1 : Int)) :: st) g) : Z p l e R s m args below meth c nL D N ad A cells slots Q pc lv (.ref (ad a) :: st) g := fun H locs ls hl hP hS => va_alen (zx_e X) (zx_b X) (zx_K X).1 hP a t0 (by rw [z_w_get hN, he]) ht rfl hd (k H locs ls hl hP hS)
theorem z_aald (X : zCx p s m args meth c cc nL own ret D tys N ad A) (a t0 : Nat) (hN : a < N) {cA : ClassId} {C : String} {n : Nat} {f : Nat → Option Nat} {i : Int} {x : Nat} (he : g a = .inl (cA, n, .inr (.inr (.inr (.inr f))))) (ht : tys[t0]? = some (cA, .object C)) (h0 : 0 ≤ i) (h1 : i < n) (hn : n < 2147483648) (hf : f i.toNat = some x) (hd : decode cc pc = .ok (.aaload, 1)) (k : Z p l e R s m args below meth c nL D N ad A cells slots Q (pc + 1) lv (.ref x :: st) g) : Z p l e R s m args below meth c nL D N ad A cells slots Q pc lv (.int (iZ i) :: .ref (ad a) :: st) g := fun H locs ls hl hP hS => va_aldq (zx_e X) (zx_b X) (zx_K X).1 hP a t0 (by rw [z_w_get hN, he]) ht (iZ_in h0 h1 hn) hd (by rw [iZ_clamp h0 (by omega), hf]; exact k H locs ls hl hP hS)
end ZL
end
section
/-! contracts over the world, calls and ends -/
def zRm (lev : Nat) : Room := { frames := lev, cells := 0, slots := 0, locals := 40 * lev }
def zWs (y : MethodName) (cc : ByteArray) (maxL : Nat) (ret : Option FieldType) : List Cond := Cond.code y cc maxL ret :: wsG
/-- a method's facts in the tables -/
def zMe (y : MethodName) (cc : ByteArray) (maxL : Nat) (ret : Option FieldType) (n : Nat) : Prop :=
  Cond.code y cc maxL ret ∈ wsG ∧ Cond.initialized y.cls ∈ wsG ∧ (y.cls ≠ "java/lang/invoke/MethodHandle" ∧ y.cls ≠ "java/lang/invoke/VarHandle") ∧ (parseMethodDescriptor y.desc).map (fun d => d.parameters.length) = some n ∧ plainName y.cls = true
theorem wsG_good {w : Cond} (h : w ∈ wsG) : goodWord w = true := (List.mem_filter.mp h).2
theorem zPay {y : MethodName} {cc : ByteArray} {maxL : Nat} {ret : Option FieldType} {args : Array Value} {s : State} (hc : Cond.code y cc maxL ret ∈ wsG) (hts : ∀ w ∈ wsG, w.before args s = true) : ∀ w ∈ zWs y cc maxL ret, ∀ (a' : Array Value) (U : State), s.WarmedH U.vm → w.before a' U = true := by
  intro w hw a' U hW
  have h : w ∈ wsG := by
    rcases List.mem_cons.mp hw with h | h
    · rw [h]; exact hc
    · exact h
  exact word_at hW (good_of_word (wsG_good h)) (hts w h)
def zPre (D : va_G) (tys : List (ClassId × FieldType)) (N : Nat) (ad : Nat → Nat) (g : Nat → va_E) (sz : Nat) : State → Prop := fun U => U.heap.size = sz ∧ zKs D tys U ∧ zInj N ad ∧ zP D N ad g U.heap
/-- the ends: an int, nothing, a reference into the world -/
def zQi {S : Type} (D : va_G) (N : Nat) (ad : Nat → Nat) (G : S → Nat → va_E) (post : Int → S → Prop) (A : Nat → Prop) : Array Value → State → Outcome → State → Prop := va_Qi (fun r (u : Int × S) => r = iZ u.1 ∧ post u.1 u.2) (fun u t => zP D N ad (G u.2) t.heap) A
def zQv {S : Type} (D : va_G) (N : Nat) (ad : Nat → Nat) (G : S → Nat → va_E) (post : S → Prop) (A : Nat → Prop) : Array Value → State → Outcome → State → Prop := va_Qv post (fun u t => zP D N ad (G u) t.heap) A
def zQr {S : Type} (D : va_G) (N : Nat) (ad : Nat → Nat) (G : S → Nat → va_E) (post : Nat → S → Prop) (A : Nat → Prop) : Array Value → State → Outcome → State → Prop := va_Qr (fun (u : Nat × S) => post u.1 u.2) (fun u a t => a = ad u.1 ∧ zP D N ad (G u.2) t.heap) A
def zMi {S : Type} (l : Launch) (y : MethodName) (cc : ByteArray) (maxL : Nat) (ret : Option FieldType) (lev : Nat) (D : va_G) (tys : List (ClassId × FieldType)) (N : Nat) (ad : Nat → Nat) (av : List Value) (g : Nat → va_E) (G : S → Nat → va_E) (post : Int → S → Prop) : Prop :=
  ∀ sz, Met l y (zWs y cc maxL ret) (zRm lev) (va_Pc av (zPre D tys N ad g sz)) (zQi D N ad G post (zAd N ad sz)) 0 0 (zAd N ad sz)
def zMv {S : Type} (l : Launch) (y : MethodName) (cc : ByteArray) (maxL : Nat) (lev : Nat) (D : va_G) (tys : List (ClassId × FieldType)) (N : Nat) (ad : Nat → Nat) (av : List Value) (g : Nat → va_E) (G : S → Nat → va_E) (post : S → Prop) : Prop :=
  ∀ sz, Met l y (zWs y cc maxL none) (zRm lev) (va_Pc av (zPre D tys N ad g sz)) (zQv D N ad G post (zAd N ad sz)) 0 0 (zAd N ad sz)
def zMr {S : Type} (l : Launch) (y : MethodName) (cc : ByteArray) (maxL : Nat) (ret : Option FieldType) (lev : Nat) (D : va_G) (tys : List (ClassId × FieldType)) (N : Nat) (ad : Nat → Nat) (av : List Value) (g : Nat → va_E) (G : S → Nat → va_E) (post : Nat → S → Prop) : Prop :=
  ∀ sz, Met l y (zWs y cc maxL ret) (zRm lev) (va_Pc av (zPre D tys N ad g sz)) (zQr D N ad G post (zAd N ad sz)) 0 0 (zAd N ad sz)
theorem zBlind {D : va_G} {tys : List (ClassId × FieldType)} {N : Nat} {ad : Nat → Nat} {g : Nat → va_E} {sz : Nat} {av : List Value} : FrameBlind (va_Pc av (zPre D tys N ad g sz)) := by
  intro a U g' mk ⟨h1, h2, h3, h4, h5⟩
  exact ⟨h1, h2, zKs.same (u := U) (U := U.calling g' mk a) rfl h3, h4, h5⟩
section ZE
variable {l : Launch} {y : MethodName} {cc : ByteArray} {maxL lev : Nat} {ret : Option FieldType} {D : va_G} {tys : List (ClassId × FieldType)} {N : Nat} {ad : Nat → Nat} {av : List Value} {g : Nat → va_E} {n : Nat}
theorem z_start {Qc : Nat → Array Value → State → Outcome → State → Prop} (hm : zMe y cc maxL ret n) (hl : (lg_sl av).length ≤ maxL)
    (body : ∀ (p : Program) (e : Env) (s : State) (m : MethodId) (args : Array Value) (below : List Frame) (meth : Method) (c : Code), zCx p s m args meth c cc maxL y.cls ret D tys N ad (zAd N ad s.heap.size) →
      Z p l e (zRm lev) s m args below meth c maxL D N ad (zAd N ad s.heap.size) 0 0 (MQ below (Qc s.heap.size) args s 0 0 (zAd N ad s.heap.size)) 0 (lv_args 0 av) [] g) (sz : Nat) :
    Met l y (zWs y cc maxL ret) (zRm lev) (va_Pc av (zPre D tys N ad g sz)) (Qc sz) 0 0 (zAd N ad sz) := by
  refine Met.ofW (cc := cc) (maxL := maxL) (ret := ret) hm.2.2.2.2 rfl ?_
  intro p e s m args below meth c s₁ B hml hv
  obtain ⟨rfl, hsz, hK, hI, hP⟩ := hv
  subst hsz
  have hts : ∀ w ∈ zWs y cc maxL ret, w.before av.toArray s = true := atoms_spec (ws := zWs y cc maxL ret) B.pre
  rw [lg_entry_eq]
  exact body p e s m av.toArray below meth c ⟨B.exec, B.bytes, hml, findClass_of_methodNamed B.named, fun w hw => hts w (List.mem_cons_of_mem _ hw), hK, hI, fun k hk => Or.inl ⟨k, hk, rfl⟩, fun q hq => Or.inr hq, B.returns, B.notSynchronized⟩ _ _ _ (lv_entry av hl) hP va_S.rf
theorem z_starti {S : Type} {G : S → Nat → va_E} {post : Int → S → Prop} (hm : zMe y cc maxL ret n) (hl : (lg_sl av).length ≤ maxL)
    (body : ∀ (p : Program) (e : Env) (s : State) (m : MethodId) (args : Array Value) (below : List Frame) (meth : Method) (c : Code), zCx p s m args meth c cc maxL y.cls ret D tys N ad (zAd N ad s.heap.size) →
      Z p l e (zRm lev) s m args below meth c maxL D N ad (zAd N ad s.heap.size) 0 0 (MQ below (zQi D N ad G post (zAd N ad s.heap.size)) args s 0 0 (zAd N ad s.heap.size)) 0 (lv_args 0 av) [] g) :
    zMi l y cc maxL ret lev D tys N ad av g G post := z_start (Qc := fun sz => zQi D N ad G post (zAd N ad sz)) hm hl body
theorem z_startv {S : Type} {G : S → Nat → va_E} {post : S → Prop} (hm : zMe y cc maxL none n) (hl : (lg_sl av).length ≤ maxL)
    (body : ∀ (p : Program) (e : Env) (s : State) (m : MethodId) (args : Array Value) (below : List Frame) (meth : Method) (c : Code), zCx p s m args meth c cc maxL y.cls none D tys N ad (zAd N ad s.heap.size) →
      Z p l e (zRm lev) s m args below meth c maxL D N ad (zAd N ad s.heap.size) 0 0 (MQ below (zQv D N ad G post (zAd N ad s.heap.size)) args s 0 0 (zAd N ad s.heap.size)) 0 (lv_args 0 av) [] g) :
    zMv l y cc maxL lev D tys N ad av g G post := z_start (Qc := fun sz => zQv D N ad G post (zAd N ad sz)) hm hl body
theorem z_startr {S : Type} {G : S → Nat → va_E} {post : Nat → S → Prop} (hm : zMe y cc maxL ret n) (hl : (lg_sl av).length ≤ maxL)
    (body : ∀ (p : Program) (e : Env) (s : State) (m : MethodId) (args : Array Value) (below : List Frame) (meth : Method) (c : Code), zCx p s m args meth c cc maxL y.cls ret D tys N ad (zAd N ad s.heap.size) →
      Z p l e (zRm lev) s m args below meth c maxL D N ad (zAd N ad s.heap.size) 0 0 (MQ below (zQr D N ad G post (zAd N ad s.heap.size)) args s 0 0 (zAd N ad s.heap.size)) 0 (lv_args 0 av) [] g) :
    zMr l y cc maxL ret lev D tys N ad av g G post := z_start (Qc := fun sz => zQr D N ad G post (zAd N ad sz)) hm hl body
end ZE
section ZC
variable {p : Program} {l : Launch} {e : Env} {R : Room} {s : State} {m : MethodId} {args : Array Value} {below : List Frame} {meth : Method} {c : Code} {cc : ByteArray} {nL : Nat} {own : String} {ret : Option FieldType} {D : va_G} {tys : List (ClassId × FieldType)} {N : Nat} {ad : Nat → Nat} {A : Nat → Prop} {cells slots : Nat} {Q : State → Prop} {pc : Nat} {lv : List (Nat × Value)} {st : List Value} {g : Nat → va_E}
theorem z_endi {S : Type} {G : S → Nat → va_E} {post : Int → S → Prop} (X : zCx p s m args meth c cc nL own (some .int) D tys N ad A) {z : Int} (u : S) (hp : post z u) (hg : g = G u) (hd : decode cc pc = .ok (.ireturn, 1)) : Z p l e R s m args below meth c nL D N ad A cells slots (MQ below (zQi D N ad G post A) args s cells slots A) pc lv [.int (iZ z)] g := fun H locs ls hl hP hS =>
  W.iret (zx_e X) (zx_b X) (zx_r X) (fun t ht hW => ⟨⟨iZ z, (z, u), rfl, ⟨rfl, hp⟩, by dsimp only; rw [ht, ← hg]; exact hP⟩, hS.F ht⟩) hS.2.2 hd (zx_l X)
theorem z_endz {S : Type} {G : S → Nat → va_E} {post : Int → S → Prop} (X : zCx p s m args meth c cc nL own (some .boolean) D tys N ad A) {z : Int} (u : S) (hz : z = 0 ∨ z = 1) (hp : post z u) (hg : g = G u) (hd : decode cc pc = .ok (.ireturn, 1)) : Z p l e R s m args below meth c nL D N ad A cells slots (MQ below (zQi D N ad G post A) args s cells slots A) pc lv [.int (iZ z)] g := fun H locs ls hl hP hS =>
  W.zret (zx_e X) (zx_b X) (zx_r X) (by rcases hz with h | h <;> rw [h] <;> rfl) (fun t ht hW => ⟨⟨iZ z, (z, u), rfl, ⟨rfl, hp⟩, by dsimp only; rw [ht, ← hg]; exact hP⟩, hS.F ht⟩) hS.2.2 hd (zx_l X)
theorem z_endv {S : Type} {G : S → Nat → va_E} {post : S → Prop} (X : zCx p s m args meth c cc nL own none D tys N ad A) (u : S) (hp : post u) (hg : g = G u) (hd : decode cc pc = .ok (.return_, 1)) : Z p l e R s m args below meth c nL D N ad A cells slots (MQ below (zQv D N ad G post A) args s cells slots A) pc lv [] g := fun H locs ls hl hP hS =>
  W.vret (zx_e X) (zx_b X) (zx_r X) (fun t ht hW => ⟨⟨u, rfl, hp, by dsimp only; rw [ht, ← hg]; exact hP⟩, hS.F ht⟩) hS.2.2 hd (zx_l X)
theorem z_endr {S : Type} {G : S → Nat → va_E} {post : Nat → S → Prop} {C : String} (X : zCx p s m args meth c cc nL own (some (.object C)) D tys N ad A) {k : Nat} (u : S) (hp : post k u) (hg : g = G u) (hd : decode cc pc = .ok (.areturn, 1)) : Z p l e R s m args below meth c nL D N ad A cells slots (MQ below (zQr D N ad G post A) args s cells slots A) pc lv [.ref (ad k)] g := fun H locs ls hl hP hS =>
  W.aret (zx_e X) (zx_b X) (zx_r X) (Or.inl ⟨_, rfl⟩) (Or.inr ⟨_, rfl⟩) (fun t ht hW => ⟨⟨(k, u), ad k, rfl, hp, rfl, by dsimp only; rw [ht, ← hg]; exact hP⟩, hS.F ht⟩) hS.2.2 hd (zx_l X)
/-- what a call wants of the room -/
def zFit (R : Room) (cells slots maxL lev : Nat) : Prop := lev + 1 ≤ R.frames ∧ 8 + (maxL + 11) + 40 * lev ≤ R.locals ∧ cells ≤ R.cells ∧ slots ≤ R.slots
theorem z_runV (X : zCx p s m args meth c cc nL own ret D tys N ad A) {y : MethodName} {cc' : ByteArray} {maxL' lev' n index : Nat} {ret' : Option FieldType} {As : List Value} {b : Nat} {Qc : Array Value → State → Outcome → State → Prop} {H : Heap} {locs : List Loc} {ls : Array Slot} {stk : List Value} (hm : zMe y cc' maxL' ret' n) (hin : Cond.instanceMethod y ∈ wsG) (hse : Cond.selects y.cls y y ∈ wsG) (hlink : Cond.methodLink own index y ∈ wsG) (hfit : zFit R cells slots maxL' lev') (hM : Met l y (zWs y cc' maxL' ret') (zRm lev') (va_Pc (.ref (ad b) :: As) (zPre D tys N ad g H.size)) Qc 0 0 (zAd N ad H.size))
    (hn : As.length = n) (hst : stk = As.reverse ++ .ref (ad b) :: st) (hW : (st.map fun v => v.category).sum ≤ 8) (hb : b < N) {ci : Nat} {fs : List Value} (he : g b = .inr (ci, fs)) {q : vw_C} (hc : vwCl[ci]? = some q) (hq : q.1 = y.cls) (hd : decode cc pc = .ok (.invokevirtual index, 3)) (hl : lv_has ls nL lv) (hP : zP D N ad g H) :
    va_Run p l e R s m args below meth c H locs cells slots 0 0 (F0 m pc ls stk) st (Qc (Value.ref (ad b) :: As).toArray) (zAd N ad H.size) := by
  have hK := zx_K X
  have h1 := va_recv hK.1 hP hc (show (z_w N ad g)[b]? = some (ad b, .inr (ci, fs)) by rw [z_w_get hb, he])
  rw [hq] at h1
  exact va_runV (Ts := wsG) (C := y.cls) ⟨zx_e X, zx_b X, zx_m X, zx_o X, zx_w X⟩ hM
    ⟨⟨rfl, rfl, hfit.1, hfit.2.1, zPay hm.1 (zx_w X), List.mem_cons_self, zx_w X _ hm.1, zx_w X _ hm.2.1, hm.2.2.1, fun sig h => (by have h2 := hm.2.2.2.1; rw [h] at h2; exact (Option.some.inj h2).symm), zx_w X _ hlink⟩, zx_w X _ hin, zx_w X _ hse⟩
    ⟨zBlind, h1, fun U hU hW => ⟨rfl, by rw [hU], hK.warm hW, zx_I X, by rw [hU]; exact hP⟩⟩ rfl hn hl.1 hst (lv_room hW) hd ⟨hfit.2.2.1, hfit.2.2.2⟩
theorem z_runS (X : zCx p s m args meth c cc nL own ret D tys N ad A) {y : MethodName} {cc' : ByteArray} {maxL' lev' n index : Nat} {ret' : Option FieldType} {As : List Value} {Qc : Array Value → State → Outcome → State → Prop} {H : Heap} {locs : List Loc} {ls : Array Slot} {stk : List Value} (hm : zMe y cc' maxL' ret' n) (hsta : Cond.static y ∈ wsG) (hlink : Cond.methodLink own index y ∈ wsG) (hfit : zFit R cells slots maxL' lev') (hM : Met l y (zWs y cc' maxL' ret') (zRm lev') (va_Pc As (zPre D tys N ad g H.size)) Qc 0 0 (zAd N ad H.size))
    (hn : As.length = n) (hst : stk = As.reverse ++ st) (hW : (st.map fun v => v.category).sum ≤ 8) (hd : decode cc pc = .ok (.invokestatic index, 3)) (hl : lv_has ls nL lv) (hP : zP D N ad g H) :
    va_Run p l e R s m args below meth c H locs cells slots 0 0 (F0 m pc ls stk) st (Qc As.toArray) (zAd N ad H.size) := by
  have hK := zx_K X
  exact va_runS (Ts := wsG) ⟨zx_e X, zx_b X, zx_m X, zx_o X, zx_w X⟩ hM
    ⟨⟨rfl, rfl, hfit.1, hfit.2.1, zPay hm.1 (zx_w X), List.mem_cons_self, zx_w X _ hm.1, zx_w X _ hm.2.1, hm.2.2.1, fun sig h => (by have h2 := hm.2.2.2.1; rw [h] at h2; exact (Option.some.inj h2).symm), zx_w X _ hlink⟩, zx_w X _ hsta⟩
    ⟨zBlind, fun U hU hW => ⟨rfl, by rw [hU], hK.warm hW, zx_I X, by rw [hU]; exact hP⟩⟩ rfl hn hl.1 hst (lv_room hW) hd ⟨hfit.2.2.1, hfit.2.2.2⟩
theorem z_runSN (X : zCx p s m args meth c cc nL own ret D tys N ad A) {y : MethodName} {cc' : ByteArray} {maxL' lev' n index : Nat} {ret' : Option FieldType} {As : List Value} {host : String} {Qc : Array Value → State → Outcome → State → Prop} {H : Heap} {locs : List Loc} {ls : Array Slot} {stk : List Value} (hm : zMe y cc' maxL' ret' n) (hsta : Cond.static y ∈ wsG) (hlink : Cond.methodLinkNest own index y host ∈ zNest) (hfit : zFit R cells slots maxL' lev') (hM : Met l y (zWs y cc' maxL' ret') (zRm lev') (va_Pc As (zPre D tys N ad g H.size)) Qc 0 0 (zAd N ad H.size))
    (hn : As.length = n) (hst : stk = As.reverse ++ st) (hW : (st.map fun v => v.category).sum ≤ 8) (hd : decode cc pc = .ok (.invokestatic index, 3)) (hl : lv_has ls nL lv) (hP : zP D N ad g H) :
    va_Run p l e R s m args below meth c H locs cells slots 0 0 (F0 m pc ls stk) st (Qc As.toArray) (zAd N ad H.size) := by
  have hK := zx_K X
  exact va_runSN (Ts := wsG) (host := host) ⟨zx_e X, zx_b X, zx_m X, zx_o X, zx_w X⟩ hM
    ⟨⟨⟨rfl, rfl, hfit.1, hfit.2.1, zPay hm.1 (zx_w X), List.mem_cons_self⟩, zx_w X _ hm.1, zx_w X _ hm.2.1, hm.2.2.1, fun sig h => (by have h2 := hm.2.2.2.1; rw [h] at h2; exact (Option.some.inj h2).symm), zx_n X hlink rfl⟩, zx_w X _ hsta, trivial⟩
    ⟨zBlind, fun U hU hW => ⟨rfl, by rw [hU], hK.warm hW, zx_I X, by rw [hU]; exact hP⟩⟩ rfl hn hl.1 hst (lv_room hW) hd ⟨hfit.2.2.1, hfit.2.2.2⟩
theorem zAd_in (X : zCx p s m args meth c cc nL own ret D tys N ad A) {H : Heap} {locs : List Loc} (hS : va_S A s.heap H locs) : ∀ q, zAd N ad H.size q → A q := by
  rintro q (⟨k, hk, rfl⟩ | h)
  · exact zx_A X k hk
  · exact zx_F X q (Nat.le_trans hS.1 h)
theorem z_callVi {S : Type} {G : S → Nat → va_E} {post : Int → S → Prop} (X : zCx p s m args meth c cc nL own ret D tys N ad A) {y : MethodName} {cc' : ByteArray} {maxL' lev' n index : Nat} {ret' : Option FieldType} (hm : zMe y cc' maxL' ret' n) (hin : Cond.instanceMethod y ∈ wsG) (hse : Cond.selects y.cls y y ∈ wsG) (hlink : Cond.methodLink own index y ∈ wsG) (hfit : zFit R cells slots maxL' lev') (As : List Value) {b : Nat} (hM : zMi l y cc' maxL' ret' lev' D tys N ad (.ref (ad b) :: As) g G post) {stk : List Value} (hst : stk = As.reverse ++ .ref (ad b) :: st) (hn : As.length = n) (hW : (st.map fun v => v.category).sum ≤ 8) (hb : b < N) {ci : Nat} {fs : List Value} (he : g b = .inr (ci, fs)) {q : vw_C} (hc : vwCl[ci]? = some q) (hq : q.1 = y.cls) (hd : decode cc pc = .ok (.invokevirtual index, 3)) (k : ∀ (z : Int) (u : S), post z u → Z p l e R s m args below meth c nL D N ad A cells slots Q (pc + 3) lv (.int (iZ z) :: st) (G u)) : Z p l e R s m args below meth c nL D N ad A cells slots Q pc lv stk g := by
  intro H locs ls hl hP hS
  have hf := zAd_in X hS
  refine va_calli (z_runV X hm hin hse hlink hfit (hM H.size) hn hst hW hb he hc hq hd hl hP) hS (fun q _ h => hf q h) hf (fun r u t H1 locs1 ht hvm hw hB _ _ hS1 => ?_)
  obtain ⟨z, u⟩ := u
  obtain ⟨rfl, hw⟩ := hw
  rw [ht] at hB
  exact k z u hw H1 locs1 ls hl hB hS1
theorem z_callVv {S : Type} {G : S → Nat → va_E} {post : S → Prop} (X : zCx p s m args meth c cc nL own ret D tys N ad A) {y : MethodName} {cc' : ByteArray} {maxL' lev' n index : Nat} (hm : zMe y cc' maxL' none n) (hin : Cond.instanceMethod y ∈ wsG) (hse : Cond.selects y.cls y y ∈ wsG) (hlink : Cond.methodLink own index y ∈ wsG) (hfit : zFit R cells slots maxL' lev') (As : List Value) {b : Nat} (hM : zMv l y cc' maxL' lev' D tys N ad (.ref (ad b) :: As) g G post) {stk : List Value} (hst : stk = As.reverse ++ .ref (ad b) :: st) (hn : As.length = n) (hW : (st.map fun v => v.category).sum ≤ 8) (hb : b < N) {ci : Nat} {fs : List Value} (he : g b = .inr (ci, fs)) {q : vw_C} (hc : vwCl[ci]? = some q) (hq : q.1 = y.cls) (hd : decode cc pc = .ok (.invokevirtual index, 3)) (k : ∀ (u : S), post u → Z p l e R s m args below meth c nL D N ad A cells slots Q (pc + 3) lv st (G u)) : Z p l e R s m args below meth c nL D N ad A cells slots Q pc lv stk g := by
  intro H locs ls hl hP hS
  have hf := zAd_in X hS
  refine va_callv (z_runV X hm hin hse hlink hfit (hM H.size) hn hst hW hb he hc hq hd hl hP) hS (fun q _ h => hf q h) hf (fun u t H1 locs1 ht hvm hw hB _ _ hS1 => ?_)
  rw [ht] at hB
  exact k u hw H1 locs1 ls hl hB hS1
theorem z_callVr {S : Type} {G : S → Nat → va_E} {post : Nat → S → Prop} (X : zCx p s m args meth c cc nL own ret D tys N ad A) {y : MethodName} {cc' : ByteArray} {maxL' lev' n index : Nat} {ret' : Option FieldType} (hm : zMe y cc' maxL' ret' n) (hin : Cond.instanceMethod y ∈ wsG) (hse : Cond.selects y.cls y y ∈ wsG) (hlink : Cond.methodLink own index y ∈ wsG) (hfit : zFit R cells slots maxL' lev') (As : List Value) {b : Nat} (hM : zMr l y cc' maxL' ret' lev' D tys N ad (.ref (ad b) :: As) g G post) {stk : List Value} (hst : stk = As.reverse ++ .ref (ad b) :: st) (hn : As.length = n) (hW : (st.map fun v => v.category).sum ≤ 8) (hb : b < N) {ci : Nat} {fs : List Value} (he : g b = .inr (ci, fs)) {q : vw_C} (hc : vwCl[ci]? = some q) (hq : q.1 = y.cls) (hd : decode cc pc = .ok (.invokevirtual index, 3)) (k : ∀ (j : Nat) (u : S), post j u → Z p l e R s m args below meth c nL D N ad A cells slots Q (pc + 3) lv (.ref (ad j) :: st) (G u)) : Z p l e R s m args below meth c nL D N ad A cells slots Q pc lv stk g := by
  intro H locs ls hl hP hS
  have hf := zAd_in X hS
  refine va_callr (z_runV X hm hin hse hlink hfit (hM H.size) hn hst hW hb he hc hq hd hl hP) hS (fun q _ h => hf q h) hf (fun u ra t H1 locs1 ht hvm hw hB _ _ hS1 => ?_)
  obtain ⟨j, u⟩ := u
  obtain ⟨rfl, hB⟩ := hB
  rw [ht] at hB
  exact k j u hw H1 locs1 ls hl hB hS1
theorem z_callSi {S : Type} {G : S → Nat → va_E} {post : Int → S → Prop} (X : zCx p s m args meth c cc nL own ret D tys N ad A) {y : MethodName} {cc' : ByteArray} {maxL' lev' n index : Nat} {ret' : Option FieldType} (hm : zMe y cc' maxL' ret' n) (hsta : Cond.static y ∈ wsG) (hlink : Cond.methodLink own index y ∈ wsG) (hfit : zFit R cells slots maxL' lev') (As : List Value) (hM : zMi l y cc' maxL' ret' lev' D tys N ad As g G post) {stk : List Value} (hst : stk = As.reverse ++ st) (hn : As.length = n) (hW : (st.map fun v => v.category).sum ≤ 8) (hd : decode cc pc = .ok (.invokestatic index, 3)) (k : ∀ (z : Int) (u : S), post z u → Z p l e R s m args below meth c nL D N ad A cells slots Q (pc + 3) lv (.int (iZ z) :: st) (G u)) : Z p l e R s m args below meth c nL D N ad A cells slots Q pc lv stk g := by
  intro H locs ls hl hP hS
  have hf := zAd_in X hS
  refine va_calli (z_runS X hm hsta hlink hfit (hM H.size) hn hst hW hd hl hP) hS (fun q _ h => hf q h) hf (fun r u t H1 locs1 ht hvm hw hB _ _ hS1 => ?_)
  obtain ⟨z, u⟩ := u
  obtain ⟨rfl, hw⟩ := hw
  rw [ht] at hB
  exact k z u hw H1 locs1 ls hl hB hS1
theorem z_callSv {S : Type} {G : S → Nat → va_E} {post : S → Prop} (X : zCx p s m args meth c cc nL own ret D tys N ad A) {y : MethodName} {cc' : ByteArray} {maxL' lev' n index : Nat} (hm : zMe y cc' maxL' none n) (hsta : Cond.static y ∈ wsG) (hlink : Cond.methodLink own index y ∈ wsG) (hfit : zFit R cells slots maxL' lev') (As : List Value) (hM : zMv l y cc' maxL' lev' D tys N ad As g G post) {stk : List Value} (hst : stk = As.reverse ++ st) (hn : As.length = n) (hW : (st.map fun v => v.category).sum ≤ 8) (hd : decode cc pc = .ok (.invokestatic index, 3)) (k : ∀ (u : S), post u → Z p l e R s m args below meth c nL D N ad A cells slots Q (pc + 3) lv st (G u)) : Z p l e R s m args below meth c nL D N ad A cells slots Q pc lv stk g := by
  intro H locs ls hl hP hS
  have hf := zAd_in X hS
  refine va_callv (z_runS X hm hsta hlink hfit (hM H.size) hn hst hW hd hl hP) hS (fun q _ h => hf q h) hf (fun u t H1 locs1 ht hvm hw hB _ _ hS1 => ?_)
  rw [ht] at hB
  exact k u hw H1 locs1 ls hl hB hS1
theorem z_callSr {S : Type} {G : S → Nat → va_E} {post : Nat → S → Prop} (X : zCx p s m args meth c cc nL own ret D tys N ad A) {y : MethodName} {cc' : ByteArray} {maxL' lev' n index : Nat} {ret' : Option FieldType} (hm : zMe y cc' maxL' ret' n) (hsta : Cond.static y ∈ wsG) (hlink : Cond.methodLink own index y ∈ wsG) (hfit : zFit R cells slots maxL' lev') (As : List Value) (hM : zMr l y cc' maxL' ret' lev' D tys N ad As g G post) {stk : List Value} (hst : stk = As.reverse ++ st) (hn : As.length = n) (hW : (st.map fun v => v.category).sum ≤ 8) (hd : decode cc pc = .ok (.invokestatic index, 3)) (k : ∀ (j : Nat) (u : S), post j u → Z p l e R s m args below meth c nL D N ad A cells slots Q (pc + 3) lv (.ref (ad j) :: st) (G u)) : Z p l e R s m args below meth c nL D N ad A cells slots Q pc lv stk g := by
  intro H locs ls hl hP hS
  have hf := zAd_in X hS
  refine va_callr (z_runS X hm hsta hlink hfit (hM H.size) hn hst hW hd hl hP) hS (fun q _ h => hf q h) hf (fun u ra t H1 locs1 ht hvm hw hB _ _ hS1 => ?_)
  obtain ⟨j, u⟩ := u
  obtain ⟨rfl, hB⟩ := hB
  rw [ht] at hB
  exact k j u hw H1 locs1 ls hl hB hS1
theorem z_callSNi {S : Type} {G : S → Nat → va_E} {post : Int → S → Prop} (X : zCx p s m args meth c cc nL own ret D tys N ad A) {y : MethodName} {cc' : ByteArray} {maxL' lev' n index : Nat} {ret' : Option FieldType} (hm : zMe y cc' maxL' ret' n) (hsta : Cond.static y ∈ wsG) {host : String} (hlink : Cond.methodLinkNest own index y host ∈ zNest) (hfit : zFit R cells slots maxL' lev') (As : List Value) (hM : zMi l y cc' maxL' ret' lev' D tys N ad As g G post) {stk : List Value} (hst : stk = As.reverse ++ st) (hn : As.length = n) (hW : (st.map fun v => v.category).sum ≤ 8) (hd : decode cc pc = .ok (.invokestatic index, 3)) (k : ∀ (z : Int) (u : S), post z u → Z p l e R s m args below meth c nL D N ad A cells slots Q (pc + 3) lv (.int (iZ z) :: st) (G u)) : Z p l e R s m args below meth c nL D N ad A cells slots Q pc lv stk g := by
  intro H locs ls hl hP hS
  have hf := zAd_in X hS
  refine va_calli (z_runSN X hm hsta hlink hfit (hM H.size) hn hst hW hd hl hP) hS (fun q _ h => hf q h) hf (fun r u t H1 locs1 ht hvm hw hB _ _ hS1 => ?_)
  obtain ⟨z, u⟩ := u
  obtain ⟨rfl, hw⟩ := hw
  rw [ht] at hB
  exact k z u hw H1 locs1 ls hl hB hS1
theorem z_callSNv {S : Type} {G : S → Nat → va_E} {post : S → Prop} (X : zCx p s m args meth c cc nL own ret D tys N ad A) {y : MethodName} {cc' : ByteArray} {maxL' lev' n index : Nat} (hm : zMe y cc' maxL' none n) (hsta : Cond.static y ∈ wsG) {host : String} (hlink : Cond.methodLinkNest own index y host ∈ zNest) (hfit : zFit R cells slots maxL' lev') (As : List Value) (hM : zMv l y cc' maxL' lev' D tys N ad As g G post) {stk : List Value} (hst : stk = As.reverse ++ st) (hn : As.length = n) (hW : (st.map fun v => v.category).sum ≤ 8) (hd : decode cc pc = .ok (.invokestatic index, 3)) (k : ∀ (u : S), post u → Z p l e R s m args below meth c nL D N ad A cells slots Q (pc + 3) lv st (G u)) : Z p l e R s m args below meth c nL D N ad A cells slots Q pc lv stk g := by
  intro H locs ls hl hP hS
  have hf := zAd_in X hS
  refine va_callv (z_runSN X hm hsta hlink hfit (hM H.size) hn hst hW hd hl hP) hS (fun q _ h => hf q h) hf (fun u t H1 locs1 ht hvm hw hB _ _ hS1 => ?_)
  rw [ht] at hB
  exact k u hw H1 locs1 ls hl hB hS1
theorem z_callSNr {S : Type} {G : S → Nat → va_E} {post : Nat → S → Prop} (X : zCx p s m args meth c cc nL own ret D tys N ad A) {y : MethodName} {cc' : ByteArray} {maxL' lev' n index : Nat} {ret' : Option FieldType} (hm : zMe y cc' maxL' ret' n) (hsta : Cond.static y ∈ wsG) {host : String} (hlink : Cond.methodLinkNest own index y host ∈ zNest) (hfit : zFit R cells slots maxL' lev') (As : List Value) (hM : zMr l y cc' maxL' ret' lev' D tys N ad As g G post) {stk : List Value} (hst : stk = As.reverse ++ st) (hn : As.length = n) (hW : (st.map fun v => v.category).sum ≤ 8) (hd : decode cc pc = .ok (.invokestatic index, 3)) (k : ∀ (j : Nat) (u : S), post j u → Z p l e R s m args below meth c nL D N ad A cells slots Q (pc + 3) lv (.ref (ad j) :: st) (G u)) : Z p l e R s m args below meth c nL D N ad A cells slots Q pc lv stk g := by
  intro H locs ls hl hP hS
  have hf := zAd_in X hS
  refine va_callr (z_runSN X hm hsta hlink hfit (hM H.size) hn hst hW hd hl hP) hS (fun q _ h => hf q h) hf (fun u ra t H1 locs1 ht hvm hw hB _ _ hS1 => ?_)
  obtain ⟨j, u⟩ := u
  obtain ⟨rfl, hB⟩ := hB
  rw [ht] at hB
  exact k j u hw H1 locs1 ls hl hB hS1
end ZC
end
