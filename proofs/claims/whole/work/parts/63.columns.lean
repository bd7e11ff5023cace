/-! the columns that hangs keeps: each made of those ahead, with a place of its own -/
def mh_I (Vc : Nat → Nat → FP) (n : Nat) (col fr : Nat → FP) (pv : Nat → Nat) : Prop :=
  ∀ i, i < n → pv i < 880 ∧ (∀ j, j < 880 → col (880 * i + j) = mp_S 98 (fun k => fr (98 * i + k) * Vc k j)) ∧ (∀ k, i < k → k < 98 → fr (98 * i + k) = 0) ∧ fr (98 * i + i) ≠ 0 ∧ col (880 * i + pv i) = 1 ∧ ∀ j, j < n → i < j → col (880 * j + pv i) = 0
theorem mh_K {Vc : Nat → Nat → FP} {n : Nat} {col fr : Nat → FP} {pv : Nat → Nat} (hn : n ≤ 98) (h : mh_I Vc n col fr pv) : ∀ m, m ≤ n → ∀ c : Nat → FP, (∀ i, i < m → mp_S m (fun k => c k * Vc k (pv i)) = 0) → ∀ k, k < m → c k = 0 := by
  intro m
  induction m with
  | zero => intro _ c _ k hk; omega
  | succ m ih =>
    intro hm c hc k hk
    obtain ⟨p1, p2, p3, p4, p5, p6⟩ := h m (by omega)
    have hs : ∀ j, j < 880 → col (880 * m + j) = mp_S m (fun k => fr (98 * m + k) * Vc k j) + fr (98 * m + m) * Vc m j := fun j hj => by
      rw [p2 j hj, mp_S_more (n := m + 1) (m := 98) (by omega) (fun i h1 h2 => by rw [p3 i (by omega) h2]; grind), mp_S_s]
    have e0 := mf_mul_inv p4
    have key : ∀ i, i < m → mp_S m (fun k => (c k - c m * mf_inv (fr (98 * m + m)) * fr (98 * m + k)) * Vc k (pv i)) = 0 := fun i hi => by
      have q1 := hc i (by omega)
      rw [mp_S_s] at q1
      have q2 := hs (pv i) (h i (by omega)).1
      rw [(h i (by omega)).2.2.2.2.2 m (by omega) hi] at q2
      have q3 : mp_S m (fun k => (c k - c m * mf_inv (fr (98 * m + m)) * fr (98 * m + k)) * Vc k (pv i)) = mp_S m (fun k => c k * Vc k (pv i)) + (-(c m * mf_inv (fr (98 * m + m)))) * mp_S m (fun k => fr (98 * m + k) * Vc k (pv i)) := by
        rw [← mp_S_mul, ← mp_S_add]
        exact mp_S_cong (fun k _ => by grind)
      rw [q3]
      clear ih q3
      grind
    have hd := ih (by omega) _ key
    have hall : ∀ k, k < m + 1 → c k = c m * mf_inv (fr (98 * m + m)) * fr (98 * m + k) := fun k hk => by
      by_cases e : k = m
      · subst e
        clear ih hd key hc hs
        grind
      · have := hd k (by omega)
        clear ih hd key hc hs
        grind
    have hz : c m * mf_inv (fr (98 * m + m)) = 0 := by
      have q1 := hc m (by omega)
      have q2 : mp_S (m + 1) (fun k => c k * Vc k (pv m)) = c m * mf_inv (fr (98 * m + m)) * mp_S (m + 1) (fun k => fr (98 * m + k) * Vc k (pv m)) := by
        rw [← mp_S_mul]
        exact mp_S_cong (fun k hk => by rw [hall k hk]; grind)
      have q3 := hs (pv m) p1
      rw [← mp_S_s, p5] at q3
      rw [q2, ← q3] at q1
      clear ih hd key hc hs hall
      grind
    rw [hall k hk, hz]
    grind
/-- one column more -/
theorem mh_more {Vc : Nat → Nat → FP} {n : Nat} {col fr : Nat → FP} {pv : Nat → Nat} (hn : n < 98) (h : mh_I Vc n col fr pv) {now mine : Nat → FP} {p : Nat} (h1 : ∀ j, j < 880 → now j = mp_S 98 (fun k => mine k * Vc k j)) (h2 : mine n = 1) (h3 : ∀ k, n < k → k < 98 → mine k = 0) (h4 : ∀ i, i < n → now (pv i) = 0) (hp : p < 880) (hpn : now p ≠ 0) {col9 fr9 : Nat → FP} {pv9 : Nat → Nat} (hc0 : ∀ z, z < 880 * n → col9 z = col z) (hc1 : ∀ j, j < 880 → col9 (880 * n + j) = now j * mf_inv (now p)) (hf0 : ∀ z, z < 98 * n → fr9 z = fr z) (hf1 : ∀ k, k < 98 → fr9 (98 * n + k) = mine k * mf_inv (now p)) (hv0 : ∀ i, i < n → pv9 i = pv i) (hv1 : pv9 n = p) : mh_I Vc (n + 1) col9 fr9 pv9 := by
  intro i hi
  by_cases e : i = n
  · subst e
    refine ⟨by rw [hv1]; exact hp, fun j hj => ?_, fun k hk hk2 => ?_, ?_, ?_, fun j hj hij => by omega⟩
    · rw [hc1 j hj, h1 j hj, ← mp_S_mulr]
      exact mp_S_cong (fun k hk => by rw [hf1 k hk]; grind)
    · rw [hf1 k hk2, h3 k hk hk2]; grind
    · rw [hf1 i hn, h2]
      have := mf_inv_ne hpn
      grind
    · rw [hv1, hc1 p hp]
      exact mf_mul_inv hpn
  · have hin : i < n := by omega
    obtain ⟨p1, p2, p3, p4, p5, p6⟩ := h i hin
    refine ⟨by rw [hv0 i hin]; exact p1, fun j hj => ?_, fun k hk hk2 => ?_, ?_, ?_, fun j hj hij => ?_⟩
    · rw [hc0 _ (by omega), p2 j hj]
      exact mp_S_cong (fun k hk => by rw [hf0 _ (by omega)])
    · rw [hf0 _ (by omega)]; exact p3 k hk hk2
    · rw [hf0 _ (by omega)]; exact p4
    · rw [hv0 i hin, hc0 _ (by omega)]; exact p5
    · rw [hv0 i hin]
      by_cases e2 : j = n
      · rw [e2, hc1 _ p1, h4 i hin]; grind
      · rw [hc0 _ (by omega)]; exact p6 j (by omega) hij
/-- no column is made of those ahead of it -/
theorem mh_ind {U A : Type} [Lean.Grind.CommRing U] [Lean.Grind.CommRing A] {cu : U → Nat → FP} {ca : A → Nat → U} (HU : mp_P cu) {a b : A} {n : Nat} {col fr : Nat → FP} {pv : Nat → Nat} (hn : n ≤ 98) (h : mh_I (fun k j => cu (mk_V cu ca a b k) j) n col fr pv) (c : Nat → FP) (hc : mp_S n (fun k => mp_C cu (c k) * mk_V cu ca a b k) = 0) : ∀ k, k < n → c k = 0 :=
  mh_K hn h n (Nat.le_refl n) c (fun i hi => by
    have := congrArg (fun z => cu z (pv i)) hc
    simp only [mp_sum HU, mp_zero HU, mp_C_mul HU] at this
    exact this)
