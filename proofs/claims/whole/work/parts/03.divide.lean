/-! no divisors of zero, division, common divisors, primes, Gauss -/
def mp_NZ (R : Type) [Lean.Grind.CommRing R] : Prop := (∀ x y : R, x * y = 0 → x = 0 ∨ y = 0) ∧ (1 : R) ≠ 0
def mp_D {A : Type} [Lean.Grind.CommRing A] (a b : A) : Prop := ∃ c, b = a * c
def mp_U {A : Type} [Lean.Grind.CommRing A] (a : A) : Prop := ∃ c, a * c = 1
def mp_Fd (R : Type) [Lean.Grind.CommRing R] : Prop := (∀ x : R, x ≠ 0 → ∃ y, x * y = 1) ∧ (1 : R) ≠ 0
theorem mp_Fd_nz {R : Type} [Lean.Grind.CommRing R] (h : mp_Fd R) : mp_NZ R := by
  refine ⟨fun x y hxy => ?_, h.2⟩
  by_cases hx : x = 0
  · exact Or.inl hx
  · obtain ⟨z, hz⟩ := h.1 x hx
    right
    grind
theorem mp_FP : mp_Fd FP := ⟨fun x hx => ⟨mf_inv x, mf_mul_inv hx⟩, mf_one_ne⟩
theorem mp_nz_mul {R : Type} [Lean.Grind.CommRing R] (h : mp_NZ R) {x y : R} (hx : x ≠ 0) (hy : y ≠ 0) : x * y ≠ 0 := fun e => (h.1 x y e).elim hx hy
theorem mp_cancel {R : Type} [Lean.Grind.CommRing R] (h : mp_NZ R) {x y z : R} (hx : x ≠ 0) (e : x * y = x * z) : y = z := by
  have h1 : x * (y - z) = 0 := by grind
  rcases h.1 _ _ h1 with h2 | h2
  · exact absurd h2 hx
  · grind
theorem mp_D_rf {A : Type} [Lean.Grind.CommRing A] (a : A) : mp_D a a := ⟨1, by grind⟩
theorem mp_D_tr {A : Type} [Lean.Grind.CommRing A] {a b c : A} (h : mp_D a b) (h2 : mp_D b c) : mp_D a c := by
  obtain ⟨x, rfl⟩ := h
  obtain ⟨y, rfl⟩ := h2
  exact ⟨x * y, by grind⟩
theorem mp_D_0 {A : Type} [Lean.Grind.CommRing A] (a : A) : mp_D a 0 := ⟨0, by grind⟩
theorem mp_D_add {A : Type} [Lean.Grind.CommRing A] {a b c : A} (h : mp_D a b) (h2 : mp_D a c) : mp_D a (b + c) := by
  obtain ⟨x, rfl⟩ := h
  obtain ⟨y, rfl⟩ := h2
  exact ⟨x + y, by grind⟩
theorem mp_D_sub {A : Type} [Lean.Grind.CommRing A] {a b c : A} (h : mp_D a b) (h2 : mp_D a c) : mp_D a (b - c) := by
  obtain ⟨x, rfl⟩ := h
  obtain ⟨y, rfl⟩ := h2
  exact ⟨x - y, by grind⟩
theorem mp_D_neg {A : Type} [Lean.Grind.CommRing A] {a b : A} (h : mp_D a b) : mp_D a (-b) := by
  obtain ⟨x, rfl⟩ := h
  exact ⟨-x, by grind⟩
theorem mp_D_mul {A : Type} [Lean.Grind.CommRing A] {a b : A} (h : mp_D a b) (c : A) : mp_D a (b * c) := by
  obtain ⟨x, rfl⟩ := h
  exact ⟨x * c, by grind⟩
theorem mp_D_mul' {A : Type} [Lean.Grind.CommRing A] {a b : A} (h : mp_D a b) (c : A) : mp_D a (c * b) := by
  obtain ⟨x, rfl⟩ := h
  exact ⟨x * c, by grind⟩
theorem mp_D_S {A : Type} [Lean.Grind.CommRing A] {a : A} {f : Nat → A} : ∀ {n : Nat}, (∀ i, i < n → mp_D a (f i)) → mp_D a (mp_S n f)
  | 0, _ => mp_D_0 a
  | n + 1, h => mp_D_add (mp_D_S (fun i hi => h i (by omega))) (h n (by omega))
theorem mp_D_S_one {A : Type} [Lean.Grind.CommRing A] {a : A} {f : Nat → A} {k : Nat} : ∀ {n : Nat}, k < n → mp_D a (mp_S n f) → (∀ i, i < n → i ≠ k → mp_D a (f i)) → mp_D a (f k)
  | 0, h, _, _ => absurd h (Nat.not_lt_zero _)
  | n + 1, h, h1, h2 => by
    rw [mp_S_s] at h1
    by_cases hk : k = n
    · subst hk
      have := mp_D_sub h1 (mp_D_S (n := k) (fun i hi => h2 i (by omega) (by omega)))
      rw [show mp_S k f + f k - mp_S k f = f k by grind] at this
      exact this
    · have := mp_D_sub h1 (h2 n (by omega) (fun e => hk e.symm))
      rw [show mp_S n f + f n - f n = mp_S n f by grind] at this
      exact mp_D_S_one (k := k) (by omega) this (fun i hi => h2 i (by omega))
theorem mp_U_D {A : Type} [Lean.Grind.CommRing A] {a b : A} (h : mp_U a) : mp_D a b := by
  obtain ⟨c, hc⟩ := h
  exact ⟨c * b, by grind⟩
theorem mp_U_of_D {A : Type} [Lean.Grind.CommRing A] {a b : A} (h : mp_D a b) (hb : mp_U b) : mp_U a := by
  obtain ⟨c, rfl⟩ := h
  obtain ⟨d, hd⟩ := hb
  exact ⟨c * d, by grind⟩
theorem mp_U_mul {A : Type} [Lean.Grind.CommRing A] {a b : A} (ha : mp_U a) (hb : mp_U b) : mp_U (a * b) := by
  obtain ⟨c, hc⟩ := ha
  obtain ⟨d, hd⟩ := hb
  exact ⟨c * d, by grind⟩
theorem mp_U_1 {A : Type} [Lean.Grind.CommRing A] : mp_U (1 : A) := ⟨1, by grind⟩
section
variable {R A : Type}
theorem mp_lc_mul [Lean.Grind.CommRing R] [Lean.Grind.CommRing A] {cf : A → Nat → R} (H : mp_P cf) (hR : mp_NZ R) {a b : A} (ha : a ≠ 0) (hb : b ≠ 0) : mp_sz cf (a * b) + 1 = mp_sz cf a + mp_sz cf b ∧ mp_lc cf (a * b) = mp_lc cf a * mp_lc cf b := by
  obtain ⟨m, hm⟩ : ∃ m, mp_sz cf a = m + 1 := ⟨mp_sz cf a - 1, by have := mp_sz_pos H ha; omega⟩
  obtain ⟨n, hn⟩ : ∃ n, mp_sz cf b = n + 1 := ⟨mp_sz cf b - 1, by have := mp_sz_pos H hb; omega⟩
  have hc : cf (a * b) (m + n) = cf a m * cf b n := by
    rw [mp_mul H, mp_S_one (k := m) (by omega) (fun i hi hk => ?_), show m + n - m = n by omega]
    by_cases h : i < m
    · rw [mp_sz_out H (a := b) (by omega)]; grind
    · rw [mp_sz_out H (a := a) (by omega)]; grind
  have hne : cf (a * b) (m + n) ≠ 0 := by
    rw [hc]
    exact mp_nz_mul hR (mp_sz_top H hm) (mp_sz_top H hn)
  have hs : mp_sz cf (a * b) = m + n + 1 := by
    have h1 := mp_sz_mul_le H (a := a) (b := b) (m := m) (n := n) (by omega) (by omega)
    have h2 := mp_sz_lt H hne
    omega
  refine ⟨by omega, ?_⟩
  rw [mp_lc, mp_lc, mp_lc, hs, hm, hn]
  exact hc
theorem mp_sz_mul [Lean.Grind.CommRing R] [Lean.Grind.CommRing A] {cf : A → Nat → R} (H : mp_P cf) (hR : mp_NZ R) {a b : A} (ha : a ≠ 0) (hb : b ≠ 0) : mp_sz cf (a * b) + 1 = mp_sz cf a + mp_sz cf b := (mp_lc_mul H hR ha hb).1
theorem mp_dom [Lean.Grind.CommRing R] [Lean.Grind.CommRing A] {cf : A → Nat → R} (H : mp_P cf) (hR : mp_NZ R) : mp_NZ A := by
  refine ⟨fun x y h => ?_, fun h => ?_⟩
  · by_cases hx : x = 0
    · exact Or.inl hx
    · by_cases hy : y = 0
      · exact Or.inr hy
      · have h1 := mp_sz_mul H hR hx hy
        rw [h, (mp_sz_0 H).mpr rfl] at h1
        have := mp_sz_pos H hx
        have := mp_sz_pos H hy
        omega
  · have h1 := congrArg (fun a => cf a 0) h
    simp only [mp_one H, mp_zero H, if_true] at h1
    exact hR.2 h1
theorem mp_sz_CE [Lean.Grind.CommRing R] [Lean.Grind.CommRing A] {cf : A → Nat → R} (H : mp_P cf) {r : R} (h : r ≠ 0) : mp_sz cf (mp_C cf r) = 1 := mp_sz_eq H (n := 0) (fun j hj => by rw [mp_C_cf H, if_neg (by omega)]) (by rw [mp_C_cf H, if_pos rfl]; exact h)
theorem mp_C_ne [Lean.Grind.CommRing R] [Lean.Grind.CommRing A] {cf : A → Nat → R} (H : mp_P cf) {r : R} (h : r ≠ 0) : mp_C cf r ≠ 0 := fun e => h (mp_C_inj H (e.trans (mp_C_0 H).symm))
theorem mp_sz_Cmul [Lean.Grind.CommRing R] [Lean.Grind.CommRing A] {cf : A → Nat → R} (H : mp_P cf) (hR : mp_NZ R) {r : R} (h : r ≠ 0) (a : A) : mp_sz cf (mp_C cf r * a) = mp_sz cf a := by
  by_cases ha : a = 0
  · rw [ha, show mp_C cf r * 0 = 0 by grind]
  · have h1 := mp_sz_mul H hR (mp_C_ne H h) ha
    rw [mp_sz_CE H h] at h1
    omega
/-- division, the divided one times a power of the divisor's head -/
theorem mp_div [Lean.Grind.CommRing R] [Lean.Grind.CommRing A] {cf : A → Nat → R} (H : mp_P cf) (hR : mp_NZ R) {b : A} (hb : b ≠ 0) : ∀ (n : Nat) (a : A), mp_sz cf a ≤ n → ∃ (c : R) (q r : A), c ≠ 0 ∧ mp_C cf c * a = q * b + r ∧ mp_sz cf r < mp_sz cf b := by
  intro n
  induction n with
  | zero =>
    intro a ha
    refine ⟨1, 0, a, hR.2, by rw [mp_C_1 H]; grind, ?_⟩
    have := mp_sz_pos H hb
    omega
  | succ n ih =>
    intro a ha
    by_cases hlt : mp_sz cf a < mp_sz cf b
    · exact ⟨1, 0, a, hR.2, by rw [mp_C_1 H]; grind, hlt⟩
    · obtain ⟨m, hm⟩ : ∃ m, mp_sz cf b = m + 1 := ⟨mp_sz cf b - 1, by have := mp_sz_pos H hb; omega⟩
      obtain ⟨k, hk⟩ : ∃ k, mp_sz cf a = m + k + 1 := ⟨mp_sz cf a - 1 - m, by omega⟩
      have hl := mp_sz_top H hm
      obtain ⟨c, q, r, h1, h2, h3⟩ := ih (mp_C cf (cf b m) * a - mp_m cf (cf a (m + k)) k * b) (by
        refine mp_sz_le H (fun j hj => ?_)
        clear ih
        rw [mp_sub H, mp_C_mul H, mp_m_mul H]
        by_cases e : j = m + k
        · rw [e, if_pos (by omega), show m + k - k = m by omega]; grind
        · rw [mp_sz_out H (a := a) (by omega)]
          split
          · rw [mp_sz_out H (a := b) (n := j - k) (by omega)]; grind
          · grind)
      clear ih
      refine ⟨c * cf b m, q + mp_C cf c * mp_m cf (cf a (m + k)) k, r, mp_nz_mul hR h1 hl, ?_, h3⟩
      rw [mp_C_mulC H]
      grind
theorem mp_divF [Lean.Grind.CommRing R] [Lean.Grind.CommRing A] {cf : A → Nat → R} (H : mp_P cf) (hR : mp_Fd R) {b : A} (hb : b ≠ 0) (a : A) : ∃ (q r : A), a = q * b + r ∧ mp_sz cf r < mp_sz cf b := by
  obtain ⟨c, q, r, h1, h2, h3⟩ := mp_div H (mp_Fd_nz hR) hb _ a (Nat.le_refl _)
  obtain ⟨d, hd⟩ := hR.1 c h1
  have hcd : mp_C cf d * mp_C cf c = 1 := by rw [← mp_C_mulC H, show d * c = 1 by grind, mp_C_1 H]
  have hd0 : d ≠ 0 := fun e => hR.2 (by rw [← hd, e]; grind)
  refine ⟨mp_C cf d * q, mp_C cf d * r, by grind, ?_⟩
  rw [mp_sz_Cmul H (mp_Fd_nz hR) hd0]
  exact h3
/-- units of polynomials over a field -/
theorem mp_U_sz [Lean.Grind.CommRing R] [Lean.Grind.CommRing A] {cf : A → Nat → R} (H : mp_P cf) (hR : mp_NZ R) {a : A} (h : mp_U a) : mp_sz cf a = 1 := by
  obtain ⟨c, hc⟩ := h
  have h1 := (mp_dom H hR).2
  have ha : a ≠ 0 := fun e => h1 (by rw [← hc, e]; grind)
  have hc0 : c ≠ 0 := fun e => h1 (by rw [← hc, e]; grind)
  have h2 := mp_sz_mul H hR ha hc0
  rw [hc] at h2
  have h3 : mp_sz cf (1 : A) = 1 := by rw [← mp_C_1 H]; exact mp_sz_CE H hR.2
  have := mp_sz_pos H ha
  have := mp_sz_pos H hc0
  omega
theorem mp_U_C [Lean.Grind.CommRing R] [Lean.Grind.CommRing A] {cf : A → Nat → R} (H : mp_P cf) {r : R} (h : mp_U r) : mp_U (mp_C cf r) := by
  obtain ⟨s, hs⟩ := h
  exact ⟨mp_C cf s, by rw [← mp_C_mulC H, hs, mp_C_1 H]⟩
theorem mp_U_F [Lean.Grind.CommRing R] [Lean.Grind.CommRing A] {cf : A → Nat → R} (H : mp_P cf) (hR : mp_Fd R) {a : A} (h : mp_sz cf a = 1) : mp_U a := by
  rw [mp_sz_1 H (Nat.le_of_eq h)]
  exact mp_U_C H (hR.1 _ (mp_sz_top H (n := 0) h))
theorem mp_D_sz [Lean.Grind.CommRing R] [Lean.Grind.CommRing A] {cf : A → Nat → R} (H : mp_P cf) (hR : mp_NZ R) {a b : A} (h : mp_D a b) (hb : b ≠ 0) : mp_sz cf a ≤ mp_sz cf b := by
  obtain ⟨c, rfl⟩ := h
  have ha : a ≠ 0 := fun e => hb (by rw [e]; grind)
  have hc : c ≠ 0 := fun e => hb (by rw [e]; grind)
  have := mp_sz_mul H hR ha hc
  have := mp_sz_pos H hc
  omega
/-- a divisor of the same size -/
theorem mp_D_same [Lean.Grind.CommRing R] [Lean.Grind.CommRing A] {cf : A → Nat → R} (H : mp_P cf) (hR : mp_NZ R) {a b : A} (h : mp_D a b) (hb : b ≠ 0) (hs : mp_sz cf b ≤ mp_sz cf a) : ∃ r : R, r ≠ 0 ∧ b = mp_C cf r * a := by
  obtain ⟨c, rfl⟩ := h
  have ha : a ≠ 0 := fun e => hb (by rw [e]; grind)
  have hc : c ≠ 0 := fun e => hb (by rw [e]; grind)
  have h1 := mp_sz_mul H hR ha hc
  have h2 : mp_sz cf c = 1 := by have := mp_sz_pos H hc; omega
  have h3 := mp_sz_1 H (Nat.le_of_eq h2)
  refine ⟨cf c 0, mp_sz_top H h2, ?_⟩
  rw [← h3]
  grind
/-- the greatest common divisor over a field, as a sum of multiples -/
theorem mp_bez [Lean.Grind.CommRing R] [Lean.Grind.CommRing A] {cf : A → Nat → R} (H : mp_P cf) (hR : mp_Fd R) : ∀ (n : Nat) (a b : A), mp_sz cf b ≤ n → ∃ d u v : A, d = u * a + v * b ∧ mp_D d a ∧ mp_D d b := by
  intro n
  induction n with
  | zero =>
    intro a b hb
    have : b = 0 := (mp_sz_0 H).mp (by omega)
    exact ⟨a, 1, 0, by grind, mp_D_rf a, by rw [this]; exact mp_D_0 a⟩
  | succ n ih =>
    intro a b hb
    by_cases hz : b = 0
    · exact ⟨a, 1, 0, by grind, mp_D_rf a, by rw [hz]; exact mp_D_0 a⟩
    · obtain ⟨q, r, h1, h2⟩ := mp_divF H hR hz a
      obtain ⟨d, u, v, h3, h4, h5⟩ := ih b r (by omega)
      exact ⟨d, v, u - v * q, by grind, by rw [h1]; exact mp_D_add (mp_D_mul' h4 q) h5, h4⟩
end
/-- what can't be cut -/
def mp_Irr {A : Type} [Lean.Grind.CommRing A] (a : A) : Prop := a ≠ 0 ∧ ¬ mp_U a ∧ ∀ d, mp_D d a → mp_U d ∨ mp_D a d
def mp_Pr {A : Type} [Lean.Grind.CommRing A] (a : A) : Prop := a ≠ 0 ∧ ¬ mp_U a ∧ ∀ f g, mp_D a (f * g) → mp_D a f ∨ mp_D a g
section
variable {R A : Type}
theorem mp_prF [Lean.Grind.CommRing R] [Lean.Grind.CommRing A] {cf : A → Nat → R} (H : mp_P cf) (hR : mp_Fd R) {a : A} (h : mp_Irr a) : mp_Pr a := by
  refine ⟨h.1, h.2.1, fun f g hfg => ?_⟩
  obtain ⟨d, u, v, h1, h2, h3⟩ := mp_bez H hR _ a f (Nat.le_refl _)
  rcases h.2.2 d h2 with h4 | h4
  · right
    obtain ⟨e, he⟩ := h4
    have h5 : g = e * (u * a * g + v * (f * g)) := by grind
    rw [h5]
    exact mp_D_mul' (mp_D_add (mp_D_mul (mp_D_mul' (mp_D_rf a) u) g) (mp_D_mul' hfg v)) e
  · exact Or.inl (mp_D_tr h4 h3)
/-- every one that is not a unit has a prime divisor -/
theorem mp_irr_ex [Lean.Grind.CommRing R] [Lean.Grind.CommRing A] {cf : A → Nat → R} (H : mp_P cf) (hR : mp_Fd R) : ∀ (n : Nat) (a : A), mp_sz cf a ≤ n → 2 ≤ mp_sz cf a → ∃ d, mp_Irr d ∧ mp_D d a := by
  intro n
  induction n with
  | zero => intro a h1 h2; omega
  | succ n ih =>
    intro a h1 h2
    have ha : a ≠ 0 := fun e => by rw [(mp_sz_0 H).mpr e] at h2; omega
    have hu : ¬ mp_U a := fun e => by have := mp_U_sz H (mp_Fd_nz hR) e; omega
    by_cases hi : ∀ d, mp_D d a → mp_U d ∨ mp_D a d
    · exact ⟨a, ⟨ha, hu, hi⟩, mp_D_rf a⟩
    · obtain ⟨d, hd⟩ := Classical.not_forall.mp hi
      obtain ⟨hd1, hd2⟩ := Classical.not_imp.mp hd
      have hd3 : ¬ mp_U d := fun q => hd2 (Or.inl q)
      have hd4 : ¬ mp_D a d := fun q => hd2 (Or.inr q)
      have hs := mp_D_sz H (mp_Fd_nz hR) hd1 ha
      have hs2 : mp_sz cf d < mp_sz cf a := by
        rcases Nat.lt_or_ge (mp_sz cf d) (mp_sz cf a) with q | q
        · exact q
        · obtain ⟨r, hr, he⟩ := mp_D_same H (mp_Fd_nz hR) hd1 ha q
          obtain ⟨y, hy⟩ := hR.1 r hr
          exact absurd ⟨mp_C cf y, by rw [he, show mp_C cf r * d * mp_C cf y = mp_C cf r * mp_C cf y * d by grind, ← mp_C_mulC H, hy, mp_C_1 H]; grind⟩ hd4
      have hd0 : d ≠ 0 := fun e => by obtain ⟨c, hc⟩ := hd1; exact ha (by rw [hc, e]; grind)
      have hs3 : 2 ≤ mp_sz cf d := by
        rcases Nat.lt_or_ge (mp_sz cf d) 2 with q | q
        · have := mp_sz_pos H hd0
          exact absurd (mp_U_F H hR (by omega)) hd3
        · exact q
      obtain ⟨p, hp1, hp2⟩ := ih d (by omega) hs3
      exact ⟨p, hp1, mp_D_tr hp2 hd1⟩
/-- a constant divides when it divides each coefficient -/
theorem mp_C_D [Lean.Grind.CommRing R] [Lean.Grind.CommRing A] {cf : A → Nat → R} (H : mp_P cf) {c : R} {a : A} : mp_D (mp_C cf c) a ↔ ∀ n, mp_D c (cf a n) := by
  constructor
  · rintro ⟨b, rfl⟩ n
    exact ⟨cf b n, mp_C_mul H c b n⟩
  · intro h
    obtain ⟨N, hN⟩ := H.2.2.2.1 a
    have h2 : ∀ n, ∃ d, cf a n = c * d ∧ (N ≤ n → d = 0) := by
      intro n
      by_cases hn : N ≤ n
      · exact ⟨0, by rw [hN n hn]; grind, fun _ => rfl⟩
      · obtain ⟨d, hd⟩ := h n
        exact ⟨d, hd, fun q => absurd q hn⟩
    let f : Nat → R := fun n => Classical.choose (h2 n)
    have hf : ∀ n, cf a n = c * f n ∧ (N ≤ n → f n = 0) := fun n => Classical.choose_spec (h2 n)
    refine ⟨mp_mk cf f, mp_ext H (fun n => ?_)⟩
    rw [mp_C_mul H, mp_mk_cf H N (fun n hn => (hf n).2 hn)]
    exact (hf n).1
/-- Gauss: a prime number stays a prime -/
theorem mp_gauss [Lean.Grind.CommRing R] [Lean.Grind.CommRing A] {cf : A → Nat → R} (H : mp_P cf) {c : R} (hc : ∀ f g : R, mp_D c (f * g) → mp_D c f ∨ mp_D c g) {f g : A} (h : mp_D (mp_C cf c) (f * g)) : mp_D (mp_C cf c) f ∨ mp_D (mp_C cf c) g := by
  by_cases hf : mp_D (mp_C cf c) f
  · exact Or.inl hf
  · by_cases hg : mp_D (mp_C cf c) g
    · exact Or.inr hg
    · exfalso
      rw [mp_C_D H] at h hf hg
      obtain ⟨i0, hi0⟩ := Classical.not_forall.mp hf
      obtain ⟨j0, hj0⟩ := Classical.not_forall.mp hg
      obtain ⟨i, hi1, hi2⟩ := mp_least (fun n => ¬ mp_D c (cf f n)) i0 hi0
      obtain ⟨j, hj1, hj2⟩ := mp_least (fun n => ¬ mp_D c (cf g n)) j0 hj0
      have h1 := h (i + j)
      rw [mp_mul H] at h1
      have h2 := mp_D_S_one (k := i) (by omega) h1 (fun k hk hki => by
        by_cases hlt : k < i
        · exact mp_D_mul (Classical.byContradiction (fun q => absurd (hi2 k q) (by omega))) _
        · exact mp_D_mul' (Classical.byContradiction (fun q => absurd (hj2 _ q) (by omega))) _)
      rw [show i + j - i = j by omega] at h2
      rcases hc _ _ h2 with h3 | h3
      · exact hi1 h3
      · exact hj1 h3
end
