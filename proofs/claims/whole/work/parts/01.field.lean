/-! numbers modulo 32003 -/
abbrev FP : Type := Fin 32003
/-- powers by squaring, as both programs do it: r * s^n -/
def mf_pw : Nat → Nat → Nat → Nat → Nat
  | 0, _, r, _ => r
  | k + 1, n, r, s => mf_pw k (n / 2) (if n % 2 = 1 then r * s % 32003 else r) (s * s % 32003)
def mf_in (a : Nat) : Nat := mf_pw 15 32001 1 a
def mf_all : Nat → Nat → Bool
  | 0, a => a % 32003 == 0 || (a * mf_in a) % 32003 == 1
  | k + 1, a => mf_all k (2 * a) && mf_all k (2 * a + 1)
set_option maxRecDepth 100000 in
theorem mf_all_ok : mf_all 15 0 = true := by decide +kernel
theorem mf_all_at : ∀ (k a b : Nat), mf_all k a = true → b < 2 ^ k → (2 ^ k * a + b) % 32003 = 0 ∨ ((2 ^ k * a + b) * mf_in (2 ^ k * a + b)) % 32003 = 1
  | 0, a, b, h, hb => by
    have hb0 : b = 0 := by simp at hb; omega
    subst hb0
    simp only [Nat.pow_zero, Nat.one_mul, Nat.add_zero]
    simp only [mf_all, Bool.or_eq_true, beq_iff_eq] at h
    exact h
  | k + 1, a, b, h, hb => by
    simp only [mf_all, Bool.and_eq_true] at h
    rw [Nat.pow_succ] at hb
    by_cases hc : b < 2 ^ k
    · have := mf_all_at k (2 * a) b h.1 hc
      rw [show 2 ^ (k + 1) * a + b = 2 ^ k * (2 * a) + b by rw [Nat.pow_succ, Nat.mul_assoc]]
      exact this
    · have := mf_all_at k (2 * a + 1) (b - 2 ^ k) h.2 (by omega)
      rw [show 2 ^ (k + 1) * a + b = 2 ^ k * (2 * a + 1) + (b - 2 ^ k) by rw [Nat.pow_succ, Nat.mul_assoc, Nat.mul_add]; omega]
      exact this
theorem mf_pw_lt : ∀ (k n r s : Nat), r < 32003 → mf_pw k n r s < 32003
  | 0, _, _, _, h => h
  | k + 1, n, r, s, h => by
    unfold mf_pw
    apply mf_pw_lt
    split
    · exact Nat.mod_lt _ (by omega)
    · exact h
theorem mf_in_lt (a : Nat) : mf_in a < 32003 := mf_pw_lt _ _ _ _ (by omega)
/-- the inverse, 0 of 0 -/
def mf_inv (a : FP) : FP := ⟨mf_in a.val, mf_in_lt _⟩
theorem mf_mul_inv {a : FP} (h : a ≠ 0) : a * mf_inv a = 1 := by
  have h1 := mf_all_at 15 0 a.val mf_all_ok (Nat.lt_trans a.isLt (by decide))
  simp only [Nat.mul_zero, Nat.zero_add] at h1
  have h2 : a.val % 32003 = a.val := Nat.mod_eq_of_lt a.isLt
  rcases h1 with h1 | h1
  · exact absurd (Fin.ext (by rw [h2] at h1; exact h1)) h
  · apply Fin.ext
    rw [Fin.val_mul]
    exact h1
theorem mf_inv_0 : mf_inv 0 = 0 := by decide +kernel
theorem mf_inv_1 : mf_inv 1 = 1 := by decide +kernel
theorem mf_nz {a b : FP} (h : a * b = 0) : a = 0 ∨ b = 0 := by
  by_cases ha : a = 0
  · exact Or.inl ha
  · right
    have h1 := mf_mul_inv ha
    grind
theorem mf_inv_ne {a : FP} (h : a ≠ 0) : mf_inv a ≠ 0 := by
  intro hz
  have h1 := mf_mul_inv h
  rw [hz] at h1
  have : (1 : FP) ≠ 0 := by decide
  grind
theorem mf_one_ne : (1 : FP) ≠ 0 := by decide
/-- a natural number as a number -/
def mf_n (n : Nat) : FP := Fin.ofNat 32003 n
theorem mf_n_add (a b : Nat) : mf_n (a + b) = mf_n a + mf_n b := by
  apply Fin.ext
  simp [mf_n, Fin.val_add, Fin.ofNat]
theorem mf_n_mul (a b : Nat) : mf_n (a * b) = mf_n a * mf_n b := by
  apply Fin.ext
  simp [mf_n, Fin.val_mul, Fin.ofNat, Nat.mul_mod]
theorem mf_n_0 : mf_n 0 = 0 := rfl
theorem mf_n_1 : mf_n 1 = 1 := rfl
theorem mf_n_val (a : FP) : mf_n a.val = a := by
  apply Fin.ext
  exact Nat.mod_eq_of_lt a.isLt
theorem mf_n_ne {n : Nat} (h0 : 0 < n) (h : n < 32003) : mf_n n ≠ 0 := by
  intro hz
  have : (mf_n n).val = 0 := by rw [hz]; rfl
  simp only [mf_n, Fin.ofNat] at this
  rw [Nat.mod_eq_of_lt h] at this
  omega
