/-! sums, and polynomials in one letter over a ring, by their coefficients -/
def mp_S {R : Type} [Lean.Grind.CommRing R] : Nat → (Nat → R) → R
  | 0, _ => 0
  | n + 1, f => mp_S n f + f n
theorem mp_S_0 {R : Type} [Lean.Grind.CommRing R] (f : Nat → R) : mp_S 0 f = 0 := rfl
theorem mp_S_s {R : Type} [Lean.Grind.CommRing R] (n : Nat) (f : Nat → R) : mp_S (n + 1) f = mp_S n f + f n := rfl
theorem mp_S_cong {R : Type} [Lean.Grind.CommRing R] {f g : Nat → R} : ∀ {n : Nat}, (∀ i, i < n → f i = g i) → mp_S n f = mp_S n g
  | 0, _ => rfl
  | n + 1, h => by rw [mp_S_s, mp_S_s, mp_S_cong (fun i hi => h i (by omega)), h n (by omega)]
theorem mp_S_zero {R : Type} [Lean.Grind.CommRing R] {f : Nat → R} : ∀ {n : Nat}, (∀ i, i < n → f i = 0) → mp_S n f = 0
  | 0, _ => rfl
  | n + 1, h => by rw [mp_S_s, mp_S_zero (fun i hi => h i (by omega)), h n (by omega)]; grind
theorem mp_S_add {R : Type} [Lean.Grind.CommRing R] (f g : Nat → R) : ∀ n, mp_S n (fun i => f i + g i) = mp_S n f + mp_S n g
  | 0 => by rw [mp_S_0, mp_S_0, mp_S_0]; grind
  | n + 1 => by rw [mp_S_s, mp_S_s, mp_S_s, mp_S_add f g n]; grind
theorem mp_S_mul {R : Type} [Lean.Grind.CommRing R] (c : R) (f : Nat → R) : ∀ n, mp_S n (fun i => c * f i) = c * mp_S n f
  | 0 => by rw [mp_S_0, mp_S_0]; grind
  | n + 1 => by rw [mp_S_s, mp_S_s, mp_S_mul c f n]; grind
theorem mp_S_mulr {R : Type} [Lean.Grind.CommRing R] (c : R) (f : Nat → R) (n : Nat) : mp_S n (fun i => f i * c) = mp_S n f * c := by
  rw [show mp_S n f * c = c * mp_S n f by grind, ← mp_S_mul]
  exact mp_S_cong (fun i _ => by grind)
/-- one term alone -/
theorem mp_S_one {R : Type} [Lean.Grind.CommRing R] {f : Nat → R} {k : Nat} : ∀ {n : Nat}, k < n → (∀ i, i < n → i ≠ k → f i = 0) → mp_S n f = f k
  | 0, h, _ => absurd h (Nat.not_lt_zero _)
  | n + 1, h, h2 => by
    rw [mp_S_s]
    by_cases hk : k = n
    · subst hk
      rw [mp_S_zero (fun i hi => h2 i (by omega) (by omega))]; grind
    · rw [mp_S_one (k := k) (by omega) (fun i hi => h2 i (by omega)), h2 n (by omega) (fun e => hk e.symm)]; grind
/-- the first term apart -/
theorem mp_S_first {R : Type} [Lean.Grind.CommRing R] (f : Nat → R) : ∀ n, mp_S (n + 1) f = f 0 + mp_S n (fun i => f (i + 1))
  | 0 => by rw [mp_S_s, mp_S_0, mp_S_0]; grind
  | n + 1 => by rw [mp_S_s, mp_S_first f n, mp_S_s]; grind
theorem mp_S_more {R : Type} [Lean.Grind.CommRing R] {f : Nat → R} {n : Nat} : ∀ {m : Nat}, n ≤ m → (∀ i, n ≤ i → i < m → f i = 0) → mp_S m f = mp_S n f
  | 0, h, _ => by rw [show n = 0 by omega]
  | m + 1, h, h2 => by
    by_cases e : n = m + 1
    · rw [e]
    · rw [mp_S_s, mp_S_more (m := m) (by omega) (fun i h1 h3 => h2 i h1 (by omega)), h2 m (by omega) (by omega)]; grind
theorem mp_S_swap {R : Type} [Lean.Grind.CommRing R] (F : Nat → Nat → R) (m : Nat) : ∀ n, mp_S n (fun i => mp_S m (fun j => F i j)) = mp_S m (fun j => mp_S n (fun i => F i j))
  | 0 => by rw [mp_S_0]; exact (mp_S_zero (fun _ _ => rfl)).symm
  | n + 1 => by
    rw [mp_S_s, mp_S_swap F m n, ← mp_S_add]
    exact mp_S_cong (fun j _ => (mp_S_s _ _).symm)
theorem mp_S_rev {R : Type} [Lean.Grind.CommRing R] : ∀ (n : Nat) (f : Nat → R), mp_S n f = mp_S n (fun i => f (n - 1 - i))
  | 0, _ => rfl
  | n + 1, f => by
    rw [mp_S_first (fun i => f (n + 1 - 1 - i)), mp_S_s, mp_S_rev n f]
    have : mp_S n (fun i => f (n + 1 - 1 - (i + 1))) = mp_S n (fun i => f (n - 1 - i)) := mp_S_cong (fun i hi => by rw [show n + 1 - 1 - (i + 1) = n - 1 - i by omega])
    rw [this]
    simp only [Nat.add_sub_cancel, Nat.sub_zero]
    grind
/-- A is the ring of polynomials over R, cf their coefficients -/
def mp_P {R A : Type} [Lean.Grind.CommRing R] [Lean.Grind.CommRing A] (cf : A → Nat → R) : Prop :=
  (∀ a b, (∀ n, cf a n = cf b n) → a = b) ∧ (∀ a b n, cf (a + b) n = cf a n + cf b n) ∧ (∀ a b n, cf (a * b) n = mp_S (n + 1) (fun i => cf a i * cf b (n - i))) ∧
  (∀ a, ∃ N, ∀ n, N ≤ n → cf a n = 0) ∧ (∀ (g : Nat → R) (N : Nat), (∀ n, N ≤ n → g n = 0) → ∃ a, ∀ n, cf a n = g n) ∧ (∀ n, cf 1 n = if n = 0 then 1 else 0)
section
variable {R A : Type}
theorem mp_ext [Lean.Grind.CommRing R] [Lean.Grind.CommRing A] {cf : A → Nat → R} (H : mp_P cf) {a b : A} (h : ∀ n, cf a n = cf b n) : a = b := H.1 a b h
theorem mp_add [Lean.Grind.CommRing R] [Lean.Grind.CommRing A] {cf : A → Nat → R} (H : mp_P cf) (a b : A) (n : Nat) : cf (a + b) n = cf a n + cf b n := H.2.1 a b n
theorem mp_mul [Lean.Grind.CommRing R] [Lean.Grind.CommRing A] {cf : A → Nat → R} (H : mp_P cf) (a b : A) (n : Nat) : cf (a * b) n = mp_S (n + 1) (fun i => cf a i * cf b (n - i)) := H.2.2.1 a b n
theorem mp_zero [Lean.Grind.CommRing R] [Lean.Grind.CommRing A] {cf : A → Nat → R} (H : mp_P cf) (n : Nat) : cf 0 n = 0 := by
  have h := mp_add H 0 0 n
  rw [show (0 : A) + 0 = 0 by grind] at h
  grind
theorem mp_neg [Lean.Grind.CommRing R] [Lean.Grind.CommRing A] {cf : A → Nat → R} (H : mp_P cf) (a : A) (n : Nat) : cf (-a) n = - cf a n := by
  have h := mp_add H a (-a) n
  rw [show a + -a = 0 by grind, mp_zero H] at h
  grind
theorem mp_sub [Lean.Grind.CommRing R] [Lean.Grind.CommRing A] {cf : A → Nat → R} (H : mp_P cf) (a b : A) (n : Nat) : cf (a - b) n = cf a n - cf b n := by
  rw [show a - b = a + -b by grind, mp_add H, mp_neg H]
  grind
theorem mp_one [Lean.Grind.CommRing R] [Lean.Grind.CommRing A] {cf : A → Nat → R} (H : mp_P cf) (n : Nat) : cf 1 n = if n = 0 then 1 else 0 := H.2.2.2.2.2 n
theorem mp_sum [Lean.Grind.CommRing R] [Lean.Grind.CommRing A] {cf : A → Nat → R} (H : mp_P cf) (F : Nat → A) (n : Nat) : ∀ m, cf (mp_S m F) n = mp_S m (fun i => cf (F i) n)
  | 0 => mp_zero H n
  | m + 1 => by rw [mp_S_s, mp_S_s, mp_add H, mp_sum H F n m]
/-- the polynomial with these coefficients -/
noncomputable def mp_mk [Lean.Grind.CommRing R] [Lean.Grind.CommRing A] (cf : A → Nat → R) (g : Nat → R) : A := @Classical.epsilon A ⟨0⟩ (fun a => ∀ n, cf a n = g n)
theorem mp_mk_cf [Lean.Grind.CommRing R] [Lean.Grind.CommRing A] {cf : A → Nat → R} (H : mp_P cf) {g : Nat → R} (N : Nat) (h : ∀ n, N ≤ n → g n = 0) (n : Nat) : cf (mp_mk cf g) n = g n :=
  @Classical.epsilon_spec A (fun a => ∀ n, cf a n = g n) (H.2.2.2.2.1 g N h) n
theorem mp_mk_eq [Lean.Grind.CommRing R] [Lean.Grind.CommRing A] {cf : A → Nat → R} (H : mp_P cf) (a : A) : mp_mk cf (cf a) = a := by
  obtain ⟨N, hN⟩ := H.2.2.2.1 a
  exact mp_ext H (fun n => mp_mk_cf H N hN n)
/-- the term r times the letter to the k -/
noncomputable def mp_m [Lean.Grind.CommRing R] [Lean.Grind.CommRing A] (cf : A → Nat → R) (r : R) (k : Nat) : A := mp_mk cf (fun n => if n = k then r else 0)
theorem mp_m_cf [Lean.Grind.CommRing R] [Lean.Grind.CommRing A] {cf : A → Nat → R} (H : mp_P cf) (r : R) (k n : Nat) : cf (mp_m cf r k) n = if n = k then r else 0 :=
  mp_mk_cf H (k + 1) (fun n h => if_neg (by omega)) n
theorem mp_m_mul [Lean.Grind.CommRing R] [Lean.Grind.CommRing A] {cf : A → Nat → R} (H : mp_P cf) (r : R) (k : Nat) (a : A) (n : Nat) : cf (mp_m cf r k * a) n = if k ≤ n then r * cf a (n - k) else 0 := by
  rw [mp_mul H]
  by_cases h : k ≤ n
  · rw [if_pos h, mp_S_one (k := k) (by omega) (fun i _ hi => by rw [mp_m_cf H, if_neg hi]; grind), mp_m_cf H, if_pos rfl]
  · rw [if_neg h]
    exact mp_S_zero (fun i hi => by rw [mp_m_cf H, if_neg (by omega)]; grind)
/-- constants -/
noncomputable def mp_C [Lean.Grind.CommRing R] [Lean.Grind.CommRing A] (cf : A → Nat → R) (r : R) : A := mp_m cf r 0
theorem mp_C_cf [Lean.Grind.CommRing R] [Lean.Grind.CommRing A] {cf : A → Nat → R} (H : mp_P cf) (r : R) (n : Nat) : cf (mp_C cf r) n = if n = 0 then r else 0 := mp_m_cf H r 0 n
theorem mp_C_mul [Lean.Grind.CommRing R] [Lean.Grind.CommRing A] {cf : A → Nat → R} (H : mp_P cf) (r : R) (a : A) (n : Nat) : cf (mp_C cf r * a) n = r * cf a n := by
  rw [mp_C, mp_m_mul H, if_pos (Nat.zero_le _), Nat.sub_zero]
theorem mp_C_1 [Lean.Grind.CommRing R] [Lean.Grind.CommRing A] {cf : A → Nat → R} (H : mp_P cf) : mp_C cf 1 = 1 := mp_ext H (fun n => by rw [mp_C_cf H, mp_one H])
theorem mp_C_0 [Lean.Grind.CommRing R] [Lean.Grind.CommRing A] {cf : A → Nat → R} (H : mp_P cf) : mp_C cf 0 = 0 := mp_ext H (fun n => by rw [mp_C_cf H, mp_zero H]; split <;> rfl)
theorem mp_C_add [Lean.Grind.CommRing R] [Lean.Grind.CommRing A] {cf : A → Nat → R} (H : mp_P cf) (r s : R) : mp_C cf (r + s) = mp_C cf r + mp_C cf s := mp_ext H (fun n => by rw [mp_add H, mp_C_cf H, mp_C_cf H, mp_C_cf H]; split <;> grind)
theorem mp_C_mulC [Lean.Grind.CommRing R] [Lean.Grind.CommRing A] {cf : A → Nat → R} (H : mp_P cf) (r s : R) : mp_C cf (r * s) = mp_C cf r * mp_C cf s := mp_ext H (fun n => by rw [mp_C_mul H, mp_C_cf H, mp_C_cf H]; split <;> grind)
theorem mp_C_neg [Lean.Grind.CommRing R] [Lean.Grind.CommRing A] {cf : A → Nat → R} (H : mp_P cf) (r : R) : mp_C cf (-r) = -mp_C cf r := mp_ext H (fun n => by rw [mp_neg H, mp_C_cf H, mp_C_cf H]; split <;> grind)
theorem mp_C_sub [Lean.Grind.CommRing R] [Lean.Grind.CommRing A] {cf : A → Nat → R} (H : mp_P cf) (r s : R) : mp_C cf (r - s) = mp_C cf r - mp_C cf s := mp_ext H (fun n => by rw [mp_sub H, mp_C_cf H, mp_C_cf H, mp_C_cf H]; split <;> grind)
theorem mp_C_inj [Lean.Grind.CommRing R] [Lean.Grind.CommRing A] {cf : A → Nat → R} (H : mp_P cf) {r s : R} (h : mp_C cf r = mp_C cf s) : r = s := by
  have := congrArg (fun a => cf a 0) h
  simpa [mp_C_cf H] using this
theorem mp_m_add [Lean.Grind.CommRing R] [Lean.Grind.CommRing A] {cf : A → Nat → R} (H : mp_P cf) (r s : R) (k : Nat) : mp_m cf (r + s) k = mp_m cf r k + mp_m cf s k := mp_ext H (fun n => by rw [mp_add H, mp_m_cf H, mp_m_cf H, mp_m_cf H]; split <;> grind)
theorem mp_m_mulm [Lean.Grind.CommRing R] [Lean.Grind.CommRing A] {cf : A → Nat → R} (H : mp_P cf) (r s : R) (k j : Nat) : mp_m cf r k * mp_m cf s j = mp_m cf (r * s) (k + j) := mp_ext H (fun n => by
  rw [mp_m_mul H, mp_m_cf H, mp_m_cf H]
  by_cases h : n = k + j
  · rw [if_pos (by omega), if_pos (by omega), if_pos h]
  · rw [if_neg h]
    split
    · rw [if_neg (by omega)]; grind
    · rfl)
theorem mp_m_C [Lean.Grind.CommRing R] [Lean.Grind.CommRing A] {cf : A → Nat → R} (H : mp_P cf) (r s : R) (k : Nat) : mp_C cf r * mp_m cf s k = mp_m cf (r * s) k := by
  rw [mp_C, mp_m_mulm H, Nat.zero_add]
theorem mp_m_0 [Lean.Grind.CommRing R] [Lean.Grind.CommRing A] {cf : A → Nat → R} (H : mp_P cf) (k : Nat) : mp_m cf 0 k = 0 := mp_ext H (fun n => by rw [mp_m_cf H, mp_zero H]; split <;> rfl)
/-- the size: 1 more than the degree, 0 of 0 -/
noncomputable def mp_sz [Lean.Grind.CommRing R] (cf : A → Nat → R) (a : A) : Nat := @Classical.epsilon Nat ⟨0⟩ (fun N => (∀ n, N ≤ n → cf a n = 0) ∧ ∀ M, (∀ n, M ≤ n → cf a n = 0) → N ≤ M)
theorem mp_least (P : Nat → Prop) : ∀ N, P N → ∃ k, P k ∧ ∀ j, P j → k ≤ j := by
  intro N
  induction N using Nat.strongRecOn with
  | ind N ih =>
    intro h
    by_cases hx : ∃ m, m < N ∧ P m
    · obtain ⟨m, h1, h2⟩ := hx
      exact ih m h1 h2
    · exact ⟨N, h, fun j hj => Nat.le_of_not_lt (fun q => hx ⟨j, q, hj⟩)⟩
theorem mp_sz_spec [Lean.Grind.CommRing R] [Lean.Grind.CommRing A] {cf : A → Nat → R} (H : mp_P cf) (a : A) : (∀ n, mp_sz cf a ≤ n → cf a n = 0) ∧ ∀ M, (∀ n, M ≤ n → cf a n = 0) → mp_sz cf a ≤ M := by
  obtain ⟨N, hN⟩ := H.2.2.2.1 a
  obtain ⟨k, h1, h2⟩ := mp_least (fun N => ∀ n, N ≤ n → cf a n = 0) N hN
  exact @Classical.epsilon_spec Nat (fun N => (∀ n, N ≤ n → cf a n = 0) ∧ ∀ M, (∀ n, M ≤ n → cf a n = 0) → N ≤ M) ⟨k, h1, h2⟩
theorem mp_sz_out [Lean.Grind.CommRing R] [Lean.Grind.CommRing A] {cf : A → Nat → R} (H : mp_P cf) {a : A} {n : Nat} (h : mp_sz cf a ≤ n) : cf a n = 0 := (mp_sz_spec H a).1 n h
theorem mp_sz_le [Lean.Grind.CommRing R] [Lean.Grind.CommRing A] {cf : A → Nat → R} (H : mp_P cf) {a : A} {M : Nat} (h : ∀ n, M ≤ n → cf a n = 0) : mp_sz cf a ≤ M := (mp_sz_spec H a).2 M h
theorem mp_sz_lt [Lean.Grind.CommRing R] [Lean.Grind.CommRing A] {cf : A → Nat → R} (H : mp_P cf) {a : A} {n : Nat} (h : cf a n ≠ 0) : n < mp_sz cf a := by
  rcases Nat.lt_or_ge n (mp_sz cf a) with q | q
  · exact q
  · exact absurd (mp_sz_out H q) h
theorem mp_sz_top [Lean.Grind.CommRing R] [Lean.Grind.CommRing A] {cf : A → Nat → R} (H : mp_P cf) {a : A} {n : Nat} (h : mp_sz cf a = n + 1) : cf a n ≠ 0 := by
  intro hz
  have := mp_sz_le H (a := a) (M := n) (fun j hj => by
    by_cases e : j = n
    · rw [e]; exact hz
    · exact mp_sz_out H (by omega))
  omega
theorem mp_sz_eq [Lean.Grind.CommRing R] [Lean.Grind.CommRing A] {cf : A → Nat → R} (H : mp_P cf) {a : A} {n : Nat} (h : ∀ j, n < j → cf a j = 0) (h2 : cf a n ≠ 0) : mp_sz cf a = n + 1 := by
  have h3 := mp_sz_lt H h2
  have h4 := mp_sz_le H (a := a) (M := n + 1) (fun j hj => h j (by omega))
  omega
theorem mp_sz_0 [Lean.Grind.CommRing R] [Lean.Grind.CommRing A] {cf : A → Nat → R} (H : mp_P cf) {a : A} : mp_sz cf a = 0 ↔ a = 0 := by
  constructor
  · intro h
    exact mp_ext H (fun n => by rw [mp_zero H]; exact mp_sz_out H (by omega))
  · intro h
    have := mp_sz_le H (a := a) (M := 0) (fun n _ => by rw [h, mp_zero H])
    omega
theorem mp_sz_pos [Lean.Grind.CommRing R] [Lean.Grind.CommRing A] {cf : A → Nat → R} (H : mp_P cf) {a : A} (h : a ≠ 0) : 0 < mp_sz cf a := by
  rcases Nat.eq_zero_or_pos (mp_sz cf a) with q | q
  · exact absurd ((mp_sz_0 H).mp q) h
  · exact q
theorem mp_sz_add [Lean.Grind.CommRing R] [Lean.Grind.CommRing A] {cf : A → Nat → R} (H : mp_P cf) {a b : A} {n : Nat} (ha : mp_sz cf a ≤ n) (hb : mp_sz cf b ≤ n) : mp_sz cf (a + b) ≤ n :=
  mp_sz_le H (fun j hj => by rw [mp_add H, mp_sz_out H (by omega), mp_sz_out H (by omega)]; grind)
theorem mp_sz_sub [Lean.Grind.CommRing R] [Lean.Grind.CommRing A] {cf : A → Nat → R} (H : mp_P cf) {a b : A} {n : Nat} (ha : mp_sz cf a ≤ n) (hb : mp_sz cf b ≤ n) : mp_sz cf (a - b) ≤ n :=
  mp_sz_le H (fun j hj => by rw [mp_sub H, mp_sz_out H (by omega), mp_sz_out H (by omega)]; grind)
theorem mp_sz_neg [Lean.Grind.CommRing R] [Lean.Grind.CommRing A] {cf : A → Nat → R} (H : mp_P cf) {a : A} {n : Nat} (ha : mp_sz cf a ≤ n) : mp_sz cf (-a) ≤ n :=
  mp_sz_le H (fun j hj => by rw [mp_neg H, mp_sz_out H (by omega)]; grind)
theorem mp_sz_mul_le [Lean.Grind.CommRing R] [Lean.Grind.CommRing A] {cf : A → Nat → R} (H : mp_P cf) {a b : A} {m n : Nat} (ha : mp_sz cf a ≤ m + 1) (hb : mp_sz cf b ≤ n + 1) : mp_sz cf (a * b) ≤ m + n + 1 :=
  mp_sz_le H (fun j hj => by
    rw [mp_mul H]
    exact mp_S_zero (fun i hi => by
      by_cases h : i ≤ m
      · rw [mp_sz_out H (a := b) (by omega)]; grind
      · rw [mp_sz_out H (a := a) (by omega)]; grind))
theorem mp_sz_C [Lean.Grind.CommRing R] [Lean.Grind.CommRing A] {cf : A → Nat → R} (H : mp_P cf) (r : R) : mp_sz cf (mp_C cf r) ≤ 1 := mp_sz_le H (fun n hn => by rw [mp_C_cf H, if_neg (by omega)])
theorem mp_sz_m [Lean.Grind.CommRing R] [Lean.Grind.CommRing A] {cf : A → Nat → R} (H : mp_P cf) (r : R) (k : Nat) : mp_sz cf (mp_m cf r k) ≤ k + 1 := mp_sz_le H (fun n hn => by rw [mp_m_cf H, if_neg (by omega)])
theorem mp_sz_1 [Lean.Grind.CommRing R] [Lean.Grind.CommRing A] {cf : A → Nat → R} (H : mp_P cf) {a : A} (h : mp_sz cf a ≤ 1) : a = mp_C cf (cf a 0) := mp_ext H (fun n => by
  rw [mp_C_cf H]
  split
  · next e => rw [e]
  · exact mp_sz_out H (by omega))
/-- the number at the head -/
noncomputable def mp_lc [Lean.Grind.CommRing R] (cf : A → Nat → R) (a : A) : R := cf a (mp_sz cf a - 1)
theorem mp_lc_ne [Lean.Grind.CommRing R] [Lean.Grind.CommRing A] {cf : A → Nat → R} (H : mp_P cf) {a : A} (h : a ≠ 0) : mp_lc cf a ≠ 0 := by
  have := mp_sz_pos H h
  exact mp_sz_top H (by omega)
end
