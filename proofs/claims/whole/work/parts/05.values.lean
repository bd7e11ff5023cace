/-! values at a point, counting zeros, and a resultant by counting unknowns -/
section
variable {R A : Type}
noncomputable def mp_X [Lean.Grind.CommRing R] [Lean.Grind.CommRing A] (cf : A → Nat → R) (w : R) : A := mp_m cf 1 1 - mp_C cf w
theorem mp_X_cf [Lean.Grind.CommRing R] [Lean.Grind.CommRing A] {cf : A → Nat → R} (H : mp_P cf) (w : R) (n : Nat) : cf (mp_X cf w) n = if n = 1 then 1 else if n = 0 then -w else 0 := by
  rw [mp_X, mp_sub H, mp_m_cf H, mp_C_cf H]
  by_cases h1 : n = 1
  · subst h1; simp; grind
  · by_cases h0 : n = 0
    · subst h0; simp; grind
    · simp [h1, h0]; grind
theorem mp_X_sz [Lean.Grind.CommRing R] [Lean.Grind.CommRing A] {cf : A → Nat → R} (H : mp_P cf) (hR : mp_NZ R) (w : R) : mp_sz cf (mp_X cf w) = 2 := mp_sz_eq H (n := 1) (fun j hj => by rw [mp_X_cf H, if_neg (by omega), if_neg (by omega)]) (by rw [mp_X_cf H, if_pos rfl]; exact hR.2)
theorem mp_X_ne [Lean.Grind.CommRing R] [Lean.Grind.CommRing A] {cf : A → Nat → R} (H : mp_P cf) (hR : mp_NZ R) (w : R) : mp_X cf w ≠ 0 := fun e => by
  have := mp_X_sz H hR w
  rw [(mp_sz_0 H).mpr e] at this
  omega
/-- the shifted one: a = X * a1 + a(0) -/
theorem mp_unshift [Lean.Grind.CommRing R] [Lean.Grind.CommRing A] {cf : A → Nat → R} (H : mp_P cf) (a : A) : ∃ b : A, (∀ n, cf b n = cf a (n + 1)) ∧ a = mp_m cf 1 1 * b + mp_C cf (cf a 0) := by
  obtain ⟨N, hN⟩ := H.2.2.2.1 a
  obtain ⟨b, hb⟩ := H.2.2.2.2.1 (fun n => cf a (n + 1)) N (fun n hn => hN _ (by omega))
  refine ⟨b, hb, mp_ext H (fun n => ?_)⟩
  rw [mp_add H, mp_m_mul H, mp_C_cf H]
  by_cases h : n = 0
  · subst h; simp; grind
  · rw [if_pos (by omega), if_neg h, hb, show n - 1 + 1 = n by omega]; grind
theorem mp_ev_ex [Lean.Grind.CommRing R] [Lean.Grind.CommRing A] {cf : A → Nat → R} (H : mp_P cf) (w : R) : ∀ (n : Nat) (a : A), mp_sz cf a ≤ n → ∃ (r : R) (q : A), a = mp_X cf w * q + mp_C cf r := by
  intro n
  induction n with
  | zero =>
    intro a ha
    have : a = 0 := (mp_sz_0 H).mp (by omega)
    exact ⟨0, 0, by rw [this, mp_C_0 H]; grind⟩
  | succ n ih =>
    intro a ha
    obtain ⟨b, hb, he⟩ := mp_unshift H a
    obtain ⟨r, q, hq⟩ := ih b (mp_sz_le H (fun j hj => by rw [hb]; exact mp_sz_out H (by omega)))
    refine ⟨w * r + cf a 0, mp_m cf 1 1 * q + mp_C cf r, ?_⟩
    have hX : mp_m cf 1 1 = mp_X cf w + mp_C cf w := by rw [mp_X]; clear ih; grind
    rw [mp_C_add H, mp_C_mulC H]
    clear ih
    grind
noncomputable def mp_e [Lean.Grind.CommRing R] [Lean.Grind.CommRing A] (cf : A → Nat → R) (w : R) (a : A) : R := @Classical.epsilon R ⟨0⟩ (fun r => ∃ q, a = mp_X cf w * q + mp_C cf r)
theorem mp_e_q [Lean.Grind.CommRing R] [Lean.Grind.CommRing A] {cf : A → Nat → R} (H : mp_P cf) (w : R) (a : A) : ∃ q, a = mp_X cf w * q + mp_C cf (mp_e cf w a) :=
  @Classical.epsilon_spec R (fun r => ∃ q, a = mp_X cf w * q + mp_C cf r) (mp_ev_ex H w _ a (Nat.le_refl _))
theorem mp_e_of [Lean.Grind.CommRing R] [Lean.Grind.CommRing A] {cf : A → Nat → R} (H : mp_P cf) (hR : mp_NZ R) {w r : R} {a q : A} (h : a = mp_X cf w * q + mp_C cf r) : mp_e cf w a = r := by
  obtain ⟨q2, h2⟩ := mp_e_q H w a
  have h3 : mp_X cf w * (q - q2) = mp_C cf (mp_e cf w a - r) := by rw [mp_C_sub H]; grind
  by_cases hz : q - q2 = 0
  · rw [hz] at h3
    have h4 : mp_C cf (mp_e cf w a - r) = mp_C cf 0 := by rw [← h3, mp_C_0 H]; grind
    have h5 := mp_C_inj H h4
    grind
  · have h4 := mp_sz_mul H hR (mp_X_ne H hR w) hz
    have h5 := mp_sz_C H (mp_e cf w a - r)
    have h6 := mp_sz_pos H hz
    rw [h3, mp_X_sz H hR] at h4
    omega
theorem mp_e_add [Lean.Grind.CommRing R] [Lean.Grind.CommRing A] {cf : A → Nat → R} (H : mp_P cf) (hR : mp_NZ R) (w : R) (a b : A) : mp_e cf w (a + b) = mp_e cf w a + mp_e cf w b := by
  obtain ⟨q, hq⟩ := mp_e_q H w a
  obtain ⟨q2, hq2⟩ := mp_e_q H w b
  refine mp_e_of H hR (q := q + q2) ?_
  rw [mp_C_add H]
  grind
theorem mp_e_mul [Lean.Grind.CommRing R] [Lean.Grind.CommRing A] {cf : A → Nat → R} (H : mp_P cf) (hR : mp_NZ R) (w : R) (a b : A) : mp_e cf w (a * b) = mp_e cf w a * mp_e cf w b := by
  obtain ⟨q, hq⟩ := mp_e_q H w a
  obtain ⟨q2, hq2⟩ := mp_e_q H w b
  refine mp_e_of H hR (q := q * b + mp_C cf (mp_e cf w a) * q2) ?_
  rw [mp_C_mulC H]
  grind
theorem mp_e_C [Lean.Grind.CommRing R] [Lean.Grind.CommRing A] {cf : A → Nat → R} (H : mp_P cf) (hR : mp_NZ R) (w r : R) : mp_e cf w (mp_C cf r) = r := mp_e_of H hR (q := 0) (by grind)
theorem mp_e_0 [Lean.Grind.CommRing R] [Lean.Grind.CommRing A] {cf : A → Nat → R} (H : mp_P cf) (hR : mp_NZ R) (w : R) : mp_e cf w 0 = 0 := by rw [← mp_C_0 H, mp_e_C H hR]
theorem mp_e_1 [Lean.Grind.CommRing R] [Lean.Grind.CommRing A] {cf : A → Nat → R} (H : mp_P cf) (hR : mp_NZ R) (w : R) : mp_e cf w 1 = 1 := by rw [← mp_C_1 H, mp_e_C H hR]
theorem mp_e_X [Lean.Grind.CommRing R] [Lean.Grind.CommRing A] {cf : A → Nat → R} (H : mp_P cf) (hR : mp_NZ R) (w v : R) : mp_e cf w (mp_X cf v) = w - v := mp_e_of H hR (q := 1) (by rw [mp_X, mp_X, mp_C_sub H]; grind)
theorem mp_e_neg [Lean.Grind.CommRing R] [Lean.Grind.CommRing A] {cf : A → Nat → R} (H : mp_P cf) (hR : mp_NZ R) (w : R) (a : A) : mp_e cf w (-a) = - mp_e cf w a := by
  have h := mp_e_add H hR w a (-a)
  rw [show a + -a = 0 by grind, mp_e_0 H hR] at h
  grind
theorem mp_e_sub [Lean.Grind.CommRing R] [Lean.Grind.CommRing A] {cf : A → Nat → R} (H : mp_P cf) (hR : mp_NZ R) (w : R) (a b : A) : mp_e cf w (a - b) = mp_e cf w a - mp_e cf w b := by
  rw [show a - b = a + -b by grind, mp_e_add H hR, mp_e_neg H hR]
  grind
theorem mp_e_D [Lean.Grind.CommRing R] [Lean.Grind.CommRing A] {cf : A → Nat → R} (H : mp_P cf) (hR : mp_NZ R) (w : R) {a : A} (h : mp_e cf w a = 0) : mp_D (mp_X cf w) a := by
  obtain ⟨q, hq⟩ := mp_e_q H w a
  rw [h, mp_C_0 H] at hq
  exact ⟨q, by grind⟩
/-- Horner's step -/
theorem mp_e_horner [Lean.Grind.CommRing R] [Lean.Grind.CommRing A] {cf : A → Nat → R} (H : mp_P cf) (hR : mp_NZ R) (w : R) {a b : A} {k : Nat} (h : ∀ n, cf b n = cf a (n + 1)) : mp_e cf w a = mp_e cf w b * w + cf a 0 := by
  obtain ⟨b2, hb, he⟩ := mp_unshift H a
  have : b2 = b := mp_ext H (fun n => by rw [hb, h])
  subst this
  have hX : mp_m cf 1 1 = mp_X cf w + mp_C cf w := by rw [mp_X]; grind
  rw [he, mp_add H, mp_m_mul H, mp_C_cf H, mp_e_add H hR, mp_e_mul H hR, mp_e_C H hR, hX, mp_e_add H hR, mp_e_X H hR, mp_e_C H hR]
  simp
  grind
end
/-- how many below n -/
noncomputable def mp_ct (p : Nat → Prop) : Nat → Nat
  | 0 => 0
  | n + 1 => mp_ct p n + @ite Nat (p n) (Classical.propDecidable _) 1 0
theorem mp_ct_y {p : Nat → Prop} {n : Nat} (h : p n) : mp_ct p (n + 1) = mp_ct p n + 1 := by rw [mp_ct, if_pos h]
theorem mp_ct_n {p : Nat → Prop} {n : Nat} (h : ¬ p n) : mp_ct p (n + 1) = mp_ct p n := by rw [mp_ct, if_neg h]; rfl
theorem mp_ct_none {p : Nat → Prop} : ∀ {n : Nat}, (∀ i, i < n → ¬ p i) → mp_ct p n = 0
  | 0, _ => rfl
  | n + 1, h => by rw [mp_ct_n (h n (by omega)), mp_ct_none (fun i hi => h i (by omega))]
theorem mp_ct_but {p q : Nat → Prop} (k : Nat) : ∀ {n : Nat}, (∀ i, i < n → p i → q i ∨ i = k) → mp_ct p n ≤ mp_ct q n + (if k < n then 1 else 0)
  | 0, _ => by simp [mp_ct]
  | n + 1, h => by
    have ih := mp_ct_but (p := p) (q := q) k (n := n) (fun i hi => h i (by omega))
    by_cases hp : p n
    · rw [mp_ct_y hp]
      rcases h n (by omega) hp with g | g
      · rw [mp_ct_y g]
        by_cases hk : k < n
        · rw [if_pos hk] at ih; rw [if_pos (by omega)]; omega
        · rw [if_neg hk] at ih; split <;> omega
      · rw [← g] at ih ⊢
        rw [if_neg (by omega)] at ih
        rw [if_pos (by omega)]
        by_cases hq : q n
        · rw [mp_ct_y hq]; omega
        · rw [mp_ct_n hq]; omega
    · rw [mp_ct_n hp]
      have h2 : mp_ct q n ≤ mp_ct q (n + 1) := by
        by_cases hq : q n
        · rw [mp_ct_y hq]; omega
        · rw [mp_ct_n hq]; exact Nat.le_refl _
      by_cases hk : k < n
      · rw [if_pos hk] at ih; rw [if_pos (by omega)]; omega
      · rw [if_neg hk] at ih; split <;> omega
theorem mp_ct_not (p : Nat → Prop) : ∀ n, mp_ct p n + mp_ct (fun i => ¬ p i) n = n
  | 0 => rfl
  | n + 1 => by
    have := mp_ct_not p n
    by_cases h : p n
    · rw [mp_ct_y h, mp_ct_n (p := fun i => ¬ p i) (fun q => q h)]; omega
    · rw [mp_ct_n h, mp_ct_y (p := fun i => ¬ p i) h]; omega
section
variable {A : Type}
theorem mf_n_inj {i j : Nat} (hi : i < 32003) (hj : j < 32003) (h : mf_n i = mf_n j) : i = j := by
  have := congrArg Fin.val h
  simp only [mf_n, Fin.ofNat] at this
  rw [Nat.mod_eq_of_lt hi, Nat.mod_eq_of_lt hj] at this
  exact this
/-- zeros among the first n numbers -/
theorem mp_zeros [Lean.Grind.CommRing A] {cf : A → Nat → FP} (H : mp_P cf) {n : Nat} (hn : n ≤ 32003) : ∀ (k : Nat) (a : A), a ≠ 0 → mp_sz cf a ≤ k + 1 → mp_ct (fun i => mp_e cf (mf_n i) a = 0) n ≤ k := by
  have hR := mp_Fd_nz mp_FP
  intro k
  induction k with
  | zero =>
    intro a ha hs
    rw [mp_ct_none]
    · exact Nat.le_refl _
    · intro i hi h
      obtain ⟨q, hq⟩ := mp_e_D H hR _ h
      have hq0 : q ≠ 0 := fun z => ha (by rw [hq, z]; grind)
      have := mp_sz_mul H hR (mp_X_ne H hR (mf_n i)) hq0
      rw [← hq, mp_X_sz H hR] at this
      have := mp_sz_pos H hq0
      omega
  | succ k ih =>
    intro a ha hs
    by_cases hz : ∃ i, i < n ∧ mp_e cf (mf_n i) a = 0
    · obtain ⟨i, hi, h⟩ := hz
      obtain ⟨q, hq⟩ := mp_e_D H hR _ h
      have hq0 : q ≠ 0 := fun z => ha (by rw [hq, z]; grind)
      have h1 := mp_sz_mul H hR (mp_X_ne H hR (mf_n i)) hq0
      rw [← hq, mp_X_sz H hR] at h1
      have h2 := ih q hq0 (by omega)
      have h3 := mp_ct_but (p := fun i => mp_e cf (mf_n i) a = 0) (q := fun i => mp_e cf (mf_n i) q = 0) i (n := n) (fun j hj hj2 => by
        by_cases e : j = i
        · exact Or.inr e
        · left
          rw [hq, mp_e_mul H hR, mp_e_X H hR] at hj2
          rcases hR.1 _ _ hj2 with g | g
          · exact absurd (mf_n_inj (by omega) (by omega) (by grind)) e
          · exact g)
      rw [if_pos hi] at h3
      omega
    · rw [mp_ct_none (fun i hi h => hz ⟨i, hi, h⟩)]
      omega
end
/-! more unknowns than equations -/
theorem mp_S_upd {R : Type} [Lean.Grind.CommRing R] (h : Nat → R) (x : R) {k : Nat} : ∀ {n : Nat}, k < n → mp_S n (fun i => if i = k then x else h i) = mp_S n h - h k + x
  | 0, q => absurd q (Nat.not_lt_zero _)
  | n + 1, q => by
    rw [mp_S_s, mp_S_s]
    by_cases e : k = n
    · subst e
      rw [mp_S_cong (g := h) (fun i hi => by rw [if_neg (by omega)]), if_pos rfl]; grind
    · rw [mp_S_upd h x (n := n) (by omega), if_neg (by omega)]; grind
theorem mp_lin {R : Type} [Lean.Grind.CommRing R] (hR : mp_Fd R) : ∀ (M N : Nat) (f : Nat → Nat → R), M < N → ∃ c : Nat → R, (∃ k, k < N ∧ c k ≠ 0) ∧ ∀ e, e < M → mp_S N (fun k => c k * f k e) = 0 := by
  intro M
  induction M with
  | zero =>
    intro N f h
    exact ⟨fun _ => 1, ⟨0, h, hR.2⟩, fun e he => absurd he (Nat.not_lt_zero _)⟩
  | succ M ih =>
    intro N f h
    obtain ⟨n, rfl⟩ : ∃ n, N = n + 1 := ⟨N - 1, by omega⟩
    by_cases hz : ∃ k, k < n + 1 ∧ f k M ≠ 0
    · obtain ⟨k0, hk0, hne⟩ := hz
      let f2 : Nat → Nat → R := fun k => if k = k0 then f n else if k = n then f k0 else f k
      have hfn : f2 n = f k0 := by
        show (if n = k0 then f n else if n = n then f k0 else f n) = f k0
        by_cases e : n = k0
        · rw [if_pos e, e]
        · rw [if_neg e, if_pos rfl]
      obtain ⟨y, hy⟩ := hR.1 _ hne
      obtain ⟨c1, ⟨k1, hk1, hc1⟩, h1⟩ := ih n (fun k e => f2 k e - f2 k M * y * f k0 e) (by omega)
      have h1' : ∀ e, e < M + 1 → mp_S n (fun k => c1 k * (f2 k e - f2 k M * y * f k0 e)) = 0 := by
        intro e he
        by_cases hM : e = M
        · subst hM
          refine mp_S_zero (fun i _ => ?_)
          clear ih h1
          grind
        · exact h1 e (by omega)
      let c2 : Nat → R := fun k => if k = n then -mp_S n (fun k => c1 k * (f2 k M * y)) else c1 k
      have h2 : ∀ e, e < M + 1 → mp_S (n + 1) (fun k => c2 k * f2 k e) = 0 := by
        intro e he
        rw [mp_S_s, hfn]
        have e1 : mp_S n (fun k => c2 k * f2 k e) = mp_S n (fun k => c1 k * (f2 k e - f2 k M * y * f k0 e)) + mp_S n (fun k => c1 k * (f2 k M * y)) * f k0 e := by
          rw [← mp_S_mulr, ← mp_S_add]
          refine mp_S_cong (fun i hi => ?_)
          have : c2 i = c1 i := if_neg (by omega)
          rw [this]
          clear ih h1 h1'
          grind
        have e2 : c2 n = -mp_S n (fun k => c1 k * (f2 k M * y)) := if_pos rfl
        rw [e1, h1' e he, e2]
        clear ih h1 h1'
        grind
      let tau : Nat → Nat := fun k => if k = k0 then n else if k = n then k0 else k
      have hf : ∀ k, f k = f2 (tau k) := by
        intro k
        show f k = if tau k = k0 then f n else if tau k = n then f k0 else f (tau k)
        by_cases a : k = k0
        · have : tau k = n := if_pos a
          rw [this]
          by_cases b : n = k0
          · rw [if_pos b, a, b]
          · rw [if_neg b, if_pos rfl, a]
        · by_cases b : k = n
          · have : tau k = k0 := by show (if k = k0 then n else if k = n then k0 else k) = k0; rw [if_neg a, if_pos b]
            rw [this, if_pos rfl, b]
          · have : tau k = k := by show (if k = k0 then n else if k = n then k0 else k) = k; rw [if_neg a, if_neg b]
            rw [this, if_neg a, if_neg b]
      have hsw : ∀ g : Nat → R, mp_S (n + 1) (fun k => g (tau k)) = mp_S (n + 1) g := by
        intro g
        rw [mp_S_s, mp_S_s]
        by_cases e : k0 = n
        · have e1 : tau n = n := by show (if n = k0 then n else if n = n then k0 else n) = n; rw [if_pos e.symm]
          rw [e1]
          congr 1
          refine mp_S_cong (fun i hi => ?_)
          have : tau i = i := by show (if i = k0 then n else if i = n then k0 else i) = i; rw [if_neg (by omega), if_neg (by omega)]
          rw [this]
        · have e1 : tau n = k0 := by show (if n = k0 then n else if n = n then k0 else n) = k0; rw [if_neg (fun q => e q.symm), if_pos rfl]
          rw [e1, mp_S_cong (g := fun i => if i = k0 then g n else g i) (fun i hi => ?_), mp_S_upd g (g n) (by omega)]
          · clear ih h1 h1' h2; grind
          · by_cases a : i = k0
            · have : tau i = n := if_pos a
              rw [this, if_pos a]
            · have : tau i = i := by show (if i = k0 then n else if i = n then k0 else i) = i; rw [if_neg a, if_neg (by omega)]
              rw [this, if_neg a]
      refine ⟨fun k => c2 (tau k), ?_, fun e he => ?_⟩
      · have htt : tau (tau k1) = k1 := by
          by_cases a : k1 = k0
          · have : tau k1 = n := if_pos a
            rw [this]
            show (if n = k0 then n else if n = n then k0 else n) = k1
            rw [if_neg (by omega), if_pos rfl, a]
          · have : tau k1 = k1 := by show (if k1 = k0 then n else if k1 = n then k0 else k1) = k1; rw [if_neg a, if_neg (by omega)]
            rw [this, this]
        refine ⟨tau k1, ?_, ?_⟩
        · show (if k1 = k0 then n else if k1 = n then k0 else k1) < n + 1
          split
          · omega
          · split <;> omega
        · show c2 (tau (tau k1)) ≠ 0
          rw [htt]
          have : c2 k1 = c1 k1 := if_neg (by omega)
          rw [this]
          exact hc1
      · rw [← h2 e he, ← hsw (fun k => c2 k * f2 k e)]
        exact mp_S_cong (fun i _ => by rw [hf i])
    · obtain ⟨c, h1, h2⟩ := ih (n + 1) f (by omega)
      refine ⟨c, h1, fun e he => ?_⟩
      by_cases hM : e = M
      · subst hM
        refine mp_S_zero (fun i hi => ?_)
        have : f i e = 0 := Classical.byContradiction (fun q => hz ⟨i, hi, q⟩)
        rw [this]
        clear ih h2
        grind
      · exact h2 e (by omega)
