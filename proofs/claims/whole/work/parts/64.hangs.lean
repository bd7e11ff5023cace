/-- what stays while columns are made -/
def mh_R (M u : zM) : Prop := (∀ y, y ≠ 13 → y ≠ 14 → y ≠ 15 → y ≠ 16 → u.1 y = M.1 y) ∧ u.2.2.1 = M.2.2.1 ∧ u.2.2.2.1 = M.2.2.2.1 ∧ u.2.2.2.2.1 = M.2.2.2.2.1
theorem mh_R_rf (M : zM) : mh_R M M := ⟨fun _ _ _ _ _ => rfl, rfl, rfl, rfl⟩
theorem mh_R_tr {M u t : zM} (h : mh_R M u) (h2 : mh_R u t) : mh_R M t := ⟨fun y a b c d => (h2.1 y a b c d).trans (h.1 y a b c d), h2.2.1.trans h.2.1, h2.2.2.1.trans h.2.2.1, h2.2.2.2.trans h.2.2.2⟩
theorem mk_S_sub (f g : Nat → FP) : ∀ n, mp_S n (fun i => f i - g i) = mp_S n f - mp_S n g
  | 0 => by show (0 : FP) = 0 - 0; grind
  | n + 1 => by rw [mp_S_s, mk_S_sub f g n, mp_S_s, mp_S_s]; grind
set_option maxHeartbeats 8000000 in
set_option maxRecDepth 100000 in
theorem c_X4_hangs (l : Launch) {D : va_G} {ad : Nat → Nat} {cI : ClassId} (M : zM) {x : Nat} (hx : zA x) (hx15 : x ≠ 15) {n : Nat} (hn : n < 98) {sh : Nat} (hsh : sh ≤ 246) {Vc : Nat → Nat → FP} (hV : ∀ j, j < 880 → Vc n j = if sh ≤ j then M.1 x (j - sh) else 0) (hz : ∀ j, j < 880 → M.1 x j ≠ 0 → j + sh < 880) (hc : M.2.2.2.2.2 = (n : Int)) (hI : mh_I Vc n (M.1 13) (M.1 14) M.2.1) : zMi l yX4_hangs cX4_hangs 8 (some .boolean) 1 D (zTyM cI) 18 ad [.ref (ad 0), .ref (ad (x)), .int (iZ ((sh : Int))), .int (iZ ((n : Int)))] (gM ad cI M) (gM ad cI) (fun z u => mh_R M u ∧ ((z = 1 ∧ u.1 16 n = 1 ∧ (∀ k, n < k → k < 98 → u.1 16 k = 0) ∧ ∀ j, j < 880 → mp_S 98 (fun k => u.1 16 k * Vc k j) = 0) ∨ (z = 0 ∧ u.2.2.2.2.2 = (n : Int) + 1 ∧ mh_I Vc (n + 1) (u.1 13) (u.1 14) u.2.1))) := by
  have hx9 := zA_o hx
  have hxa : x ≠ 12 ∧ x ≠ 13 ∧ x ≠ 14 ∧ x ≠ 16 := by unfold zA at hx; omega
  refine z_goz zm_X4_hangs (Nat.le_of_ble_eq_true rfl) [(0, .ref (ad 0)), (1, .ref (ad (x))), (2, .int (iZ ((sh : Int)))), (3, .int (iZ ((n : Int))))] rfl (fun p e s m args below meth c A Q X E => ?_)
  refine z_aload_n X 0 rfl rfl dX4_hangs_0 ?_
  refine z_get X zinX4 0 (by omega) gM_O (ci := 6) rfl 18 (by decide) (ref := "TowerFieldsModel") zw689 rfl rfl dX4_hangs_1 ?_
  refine z_callSv X zm_X4_clear zw748 zw747 (zFit_of (by decide) (by decide)) [.ref (ad (15))] (c_X4_clear l M (x := 15) (Or.inr (Or.inl rfl))) rfl rfl (Nat.le_of_ble_eq_true rfl) dX4_hangs_4 (fun S1 hu1 => ?_)
  obtain ⟨f0, e0, hf0⟩ := hu1
  subst e0
  refine z_aload_n X 1 rfl rfl dX4_hangs_7 ?_
  refine z_sipush X (n := 880) (by decide) dX4_hangs_8 ?_
  refine z_callSi X zm_X4_head zw797 zw796 (zFit_of (by decide) (by decide)) [.ref (ad (x)), .int (iZ (880))] (c_X4_head l (fa M 15 f0) hx) rfl rfl (Nat.le_of_ble_eq_true rfl) dX4_hangs_11 (fun hh _ hz4 => ?_)
  rw [fa_ne _ _ hx15] at hz4
  have hhb : -1 ≤ hh ∧ hh < 880 ∧ hh + sh < 880 := by
    rcases hz4 with ⟨q, _⟩ | ⟨q1, q2, q3, _⟩
    · omega
    · have := hz _ (by omega) q3
      omega
  refine z_istore X [(4, .int (iZ (hh))), (0, .ref (ad 0)), (1, .ref (ad (x))), (2, .int (iZ ((sh : Int)))), (3, .int (iZ ((n : Int))))] rfl (by decide) dX4_hangs_14 ?_
  refine z_iconst X (n := 0) dX4_hangs_16 ?_
  refine z_istore X [(5, .int (iZ (0))), (4, .int (iZ (hh))), (0, .ref (ad 0)), (1, .ref (ad (x))), (2, .int (iZ ((sh : Int)))), (3, .int (iZ ((n : Int))))] rfl (by decide) dX4_hangs_17 ?_
  have loop : ∀ (kloop : Nat) (i : Int) (f : Nat → FP) (lv : List (Nat × Value)) (ks : List Nat), i + kloop = hh + 1 → 0 ≤ i → (∀ j : Nat, j < 880 → f j = if sh ≤ j ∧ (j : Int) - sh < i then M.1 x (j - sh) else 0) → lv_pick lv ks = [(5, .int (iZ (i))), (0, .ref (ad 0)), (1, .ref (ad (x))), (2, .int (iZ ((sh : Int)))), (3, .int (iZ ((n : Int)))), (4, .int (iZ (hh)))] → Z p l e (zRm 1) s m args below meth c 8 D 18 ad A 0 0 Q 19 lv [] (gM ad cI (fa M 15 f)) := by
    intro kloop
    induction kloop with
    | zero =>
      intro i f lv ks e1loop e2loop h3 hlvloop
      refine z_sub ks hlvloop ?_
      refine z_iload X 0 rfl dX4_hangs_19 ?_
      refine z_iload X 5 rfl dX4_hangs_21 ?_
      refine z_icmp_gt X (tgt := 45) (by omega) (by omega) dX4_hangs_23 (by decide) (fun hb23 => ?_) (fun hb23 => absurd hb23 (by omega))
      refine z_iconst X (n := 0) dX4_hangs_45 ?_
      refine z_istore X [(5, .int (iZ (0))), (0, .ref (ad 0)), (1, .ref (ad (x))), (2, .int (iZ ((sh : Int)))), (3, .int (iZ ((n : Int)))), (4, .int (iZ (hh)))] rfl (by decide) dX4_hangs_46 ?_
      have hf : ∀ j, j < 880 → f j = Vc n j := fun j hj => by
        rw [h3 j hj, hV j hj]
        by_cases e : sh ≤ j
        · rw [if_pos e]
          by_cases e2 : (j : Int) - sh < i
          · rw [if_pos ⟨e, e2⟩]
          · rw [if_neg (fun q => e2 q.2)]
            rcases hz4 with ⟨_, q⟩ | ⟨_, _, _, q⟩
            · exact (q _ (by omega)).symm
            · exact (q _ (by omega) (by omega)).symm
        · rw [if_neg e, if_neg (fun q => e q.1)]
      rw [← fa_self (fa M 15 f) 16, fa_ne _ _ (by omega : (16 : Nat) ≠ 15)]
      clear h3 e1loop e2loop hlvloop
      have loop2 : ∀ (kloop2 : Nat) (i : Int) (h : Nat → FP) (lv : List (Nat × Value)) (ks : List Nat), i + kloop2 = 98 → 0 ≤ i → (∀ j : Nat, (j : Int) < i → h j = if j = n then 1 else 0) → lv_pick lv ks = [(5, .int (iZ (i))), (0, .ref (ad 0)), (1, .ref (ad (x))), (2, .int (iZ ((sh : Int)))), (3, .int (iZ ((n : Int)))), (4, .int (iZ (hh)))] → Z p l e (zRm 1) s m args below meth c 8 D 18 ad A 0 0 Q 48 lv [] (gM ad cI (fa (fa M 15 f) 16 h)) := by
        intro kloop2
        induction kloop2 with
        | zero =>
          intro i h lv ks e1loop2 e2loop2 c3 hlvloop2
          refine z_sub ks hlvloop2 ?_
          refine z_iload X 0 rfl dX4_hangs_48 ?_
          refine z_bipush X (n := 98) (by decide) dX4_hangs_50 ?_
          refine z_icmp_ge X (tgt := 79) (by omega) (by omega) dX4_hangs_52 (by decide) (fun hb52 => ?_) (fun hb52 => absurd hb52 (by omega))
          have b2 : h n = 1 := by rw [c3 n (by omega), if_pos rfl]
          have b3 : (∀ k, n < k → k < 98 → h k = 0) := fun k hk hk2 => by rw [c3 k (by omega), if_neg (by omega)]
          have b1 : (∀ j, j < 880 → f j = mp_S 98 (fun k => h k * Vc k j)) := fun j hj => by
            rw [hf j hj, mp_S_one (k := n) hn (fun q hq hne => by rw [c3 q (by omega), if_neg hne]; grind), b2]
            grind
          clear c3 e1loop2 e2loop2 hlvloop2
          refine z_iconst X (n := 0) dX4_hangs_79 ?_
          refine z_istore X [(5, .int (iZ (0))), (0, .ref (ad 0)), (1, .ref (ad (x))), (2, .int (iZ ((sh : Int)))), (3, .int (iZ ((n : Int)))), (4, .int (iZ (hh)))] rfl (by decide) dX4_hangs_80 ?_
          have loop3 : ∀ (kloop3 : Nat) (i : Int) (g : Nat → FP) (h : Nat → FP) (lv : List (Nat × Value)) (ks : List Nat), i + kloop3 = (n : Int) → 0 ≤ i → (∀ j, j < 880 → g j = mp_S 98 (fun k => h k * Vc k j)) → h n = 1 → (∀ k, n < k → k < 98 → h k = 0) → (∀ q : Nat, (q : Int) < i → g (M.2.1 q) = 0) → lv_pick lv ks = [(5, .int (iZ (i))), (0, .ref (ad 0)), (1, .ref (ad (x))), (2, .int (iZ ((sh : Int)))), (3, .int (iZ ((n : Int)))), (4, .int (iZ (hh)))] → Z p l e (zRm 1) s m args below meth c 8 D 18 ad A 0 0 Q 82 lv [] (gM ad cI (fa (fa M 15 g) 16 h)) := by
            intro kloop3
            induction kloop3 with
            | zero =>
              intro i g h lv ks e1loop3 e2loop3 a1 a2 a3 a4 hlvloop3
              refine z_sub ks hlvloop3 ?_
              refine z_iload X 0 rfl dX4_hangs_82 ?_
              refine z_aload_n X 1 rfl rfl dX4_hangs_84 ?_
              refine z_get X zinX4 0 (by omega) gM_O (ci := 6) rfl 14 (by decide) (ref := "TowerFieldsModel") zw685 rfl rfl dX4_hangs_85 ?_
              refine z_eqi (b := (n : Int)) hc ?_
              refine z_icmp_ge X (tgt := 244) (by omega) (by omega) dX4_hangs_88 (by decide) (fun hb88 => ?_) (fun hb88 => absurd hb88 (by omega))
              refine z_aload_n X 1 rfl rfl dX4_hangs_244 ?_
              refine z_get X zinX4 0 (by omega) gM_O (ci := 6) rfl 18 (by decide) (ref := "TowerFieldsModel") zw689 rfl rfl dX4_hangs_245 ?_
              refine z_sipush X (n := 880) (by decide) dX4_hangs_248 ?_
              refine z_callSi X zm_X4_head zw797 zw796 (zFit_of (by decide) (by decide)) [.ref (ad (15)), .int (iZ (880))] (c_X4_head l (fa (fa M 15 g) 16 h) (x := 15) (Or.inr (Or.inl rfl))) rfl rfl (Nat.le_of_ble_eq_true rfl) dX4_hangs_251 (fun hd _ hz9 => ?_)
              rw [fa_ne _ _ (by omega), fa_at] at hz9
              refine z_istore X [(5, .int (iZ (hd))), (0, .ref (ad 0)), (1, .ref (ad (x))), (2, .int (iZ ((sh : Int)))), (3, .int (iZ ((n : Int)))), (4, .int (iZ (hh)))] rfl (by decide) dX4_hangs_254 ?_
              refine z_iload X 0 rfl dX4_hangs_256 ?_
              refine z_if_ge X (tgt := 263) (by omega) dX4_hangs_258 (by decide) (fun hb258 => ?_) (fun hb258 => ?_)
              · have hp3 : g hd.toNat ≠ 0 := by
                  rcases hz9 with ⟨q, _⟩ | ⟨_, _, q, _⟩
                  · omega
                  · exact q
                refine z_aload_n X 1 rfl rfl dX4_hangs_263 ?_
                refine z_get X zinX4 0 (by omega) gM_O (ci := 6) rfl 18 (by decide) (ref := "TowerFieldsModel") zw689 rfl rfl dX4_hangs_264 ?_
                refine z_iload X 0 rfl dX4_hangs_267 ?_
                refine zn_ld X (by decide) 880 rfl (by omega) (by omega) (g (hd).toNat) (by rw [fa_ne _ _ (by omega), fa_at]) dX4_hangs_269 ?_
                refine z_callSi X zm_X4_inverse zw755 zw754 (zFit_of (by decide) (by decide)) [.int (iZ (vz (g (hd).toNat)))] (c_X4_inverse l (gM ad cI (fa (fa M 15 g) 16 h)) (g (hd).toNat)) rfl rfl (Nat.le_of_ble_eq_true rfl) dX4_hangs_270 (fun z _ hz => ?_)
                subst hz
                refine z_istore X [(6, .int (iZ (vz (mf_inv (g (hd).toNat))))), (5, .int (iZ (hd))), (0, .ref (ad 0)), (1, .ref (ad (x))), (2, .int (iZ ((sh : Int)))), (3, .int (iZ ((n : Int)))), (4, .int (iZ (hh)))] rfl (by decide) dX4_hangs_273 ?_
                refine z_aload_n X 2 rfl rfl dX4_hangs_275 ?_
                refine z_get X zinX4 0 (by omega) gM_O (ci := 6) rfl 15 (by decide) (ref := "TowerFieldsModel") zw686 rfl rfl dX4_hangs_276 ?_
                refine z_aload_n X 2 rfl rfl dX4_hangs_279 ?_
                refine z_get X zinX4 0 (by omega) gM_O (ci := 6) rfl 14 (by decide) (ref := "TowerFieldsModel") zw685 rfl rfl dX4_hangs_280 ?_
                refine z_eqi (b := (n : Int)) hc ?_
                refine z_iload X 1 rfl dX4_hangs_283 ?_
                refine zn_stp X (by omega) (by omega) (hd.toNat) (by omega) dX4_hangs_285 ?_
                obtain ⟨M1, eM1⟩ : ∃ M1, M1 = (fp (fa (fa M 15 g) 16 h) (va_up (fa (fa M 15 g) 16 h).2.1 ((n : Int)).toNat (hd.toNat))) := ⟨_, rfl⟩
                rw [← eM1]
                have m1 : M1.1 15 = g := by rw [eM1]; show (fa (fa M 15 g) 16 h).1 15 = g; rw [fa_ne _ _ (by omega), fa_at]
                have m2 : M1.1 16 = h := by rw [eM1]; show (fa (fa M 15 g) 16 h).1 16 = h; rw [fa_at]
                have m3 : ∀ y, y ≠ 15 → y ≠ 16 → M1.1 y = M.1 y := fun y h1 h2 => by rw [eM1]; show (fa (fa M 15 g) 16 h).1 y = _; rw [fa_ne _ _ h2, fa_ne _ _ h1]
                have m4 : M1.2.1 = va_up M.2.1 n hd.toNat := by rw [eM1]; rfl
                have m5 : M1.2.2 = M.2.2 := by rw [eM1]; rfl
                have hc1 : M1.2.2.2.2.2 = (n : Int) := by rw [m5]; exact hc
                clear eM1
                rw [← fa_self M1 13]
                refine z_iconst X (n := 0) dX4_hangs_286 ?_
                refine z_istore X [(7, .int (iZ (0))), (6, .int (iZ (vz (mf_inv (g (hd).toNat))))), (5, .int (iZ (hd))), (0, .ref (ad 0)), (1, .ref (ad (x))), (2, .int (iZ ((sh : Int)))), (3, .int (iZ ((n : Int)))), (4, .int (iZ (hh)))] rfl (by decide) dX4_hangs_287 ?_
                have loopC : ∀ (kloopC : Nat) (k : Int) (cx : Nat → FP) (lv : List (Nat × Value)) (ks : List Nat), k + kloopC = 880 → 0 ≤ k → (∀ z : Nat, z < 880 * n → cx z = M.1 13 z) → (∀ j : Nat, (j : Int) < k → cx (880 * n + j) = g j * mf_inv (g hd.toNat)) → lv_pick lv ks = [(7, .int (iZ (k))), (6, .int (iZ (vz (mf_inv (g (hd).toNat))))), (5, .int (iZ (hd))), (0, .ref (ad 0)), (1, .ref (ad (x))), (2, .int (iZ ((sh : Int)))), (3, .int (iZ ((n : Int)))), (4, .int (iZ (hh)))] → Z p l e (zRm 1) s m args below meth c 8 D 18 ad A 0 0 Q 289 lv [] (gM ad cI (fa M1 13 cx)) := by
                  intro kloopC
                  induction kloopC with
                  | zero =>
                    intro k cx lv ks e1loopC e2loopC cc1 cc2 hlvloopC
                    refine z_sub ks hlvloopC ?_
                    refine z_iload X 0 rfl dX4_hangs_289 ?_
                    refine z_sipush X (n := 880) (by decide) dX4_hangs_291 ?_
                    refine z_icmp_ge X (tgt := 336) (by omega) (by omega) dX4_hangs_294 (by decide) (fun hb294 => ?_) (fun hb294 => absurd hb294 (by omega))
                    refine z_iconst X (n := 0) dX4_hangs_336 ?_
                    refine z_istore X [(7, .int (iZ (0))), (6, .int (iZ (vz (mf_inv (g (hd).toNat))))), (5, .int (iZ (hd))), (0, .ref (ad 0)), (1, .ref (ad (x))), (2, .int (iZ ((sh : Int)))), (3, .int (iZ ((n : Int)))), (4, .int (iZ (hh)))] rfl (by decide) dX4_hangs_337 ?_
                    rw [← fa_self (fa M1 13 cx) 14, fa_ne _ _ (by omega : (14 : Nat) ≠ 13)]
                    have loopD : ∀ (kloopD : Nat) (k : Int) (dx : Nat → FP) (lv : List (Nat × Value)) (ks : List Nat), k + kloopD = 98 → 0 ≤ k → (∀ z : Nat, z < 98 * n → dx z = M.1 14 z) → (∀ j : Nat, (j : Int) < k → dx (98 * n + j) = h j * mf_inv (g hd.toNat)) → lv_pick lv ks = [(7, .int (iZ (k))), (6, .int (iZ (vz (mf_inv (g (hd).toNat))))), (5, .int (iZ (hd))), (0, .ref (ad 0)), (1, .ref (ad (x))), (2, .int (iZ ((sh : Int)))), (3, .int (iZ ((n : Int)))), (4, .int (iZ (hh)))] → Z p l e (zRm 1) s m args below meth c 8 D 18 ad A 0 0 Q 339 lv [] (gM ad cI (fa (fa M1 13 cx) 14 dx)) := by
                      intro kloopD
                      induction kloopD with
                      | zero =>
                        intro k dx lv ks e1loopD e2loopD dd1 dd2 hlvloopD
                        refine z_sub ks hlvloopD ?_
                        refine z_iload X 0 rfl dX4_hangs_339 ?_
                        refine z_bipush X (n := 98) (by decide) dX4_hangs_341 ?_
                        refine z_icmp_ge X (tgt := 384) (by omega) (by omega) dX4_hangs_343 (by decide) (fun hb343 => ?_) (fun hb343 => absurd hb343 (by omega))
                        refine z_aload_n X 3 rfl rfl dX4_hangs_384 ?_
                        refine z_dup X rfl dX4_hangs_385 ?_
                        refine z_get X zinX4 0 (by omega) gM_O (ci := 6) rfl 14 (by decide) (ref := "TowerFieldsModel") zw685 rfl rfl dX4_hangs_386 ?_
                        refine z_eqi (b := (n : Int)) hc1 ?_
                        refine z_iconst X (n := 1) dX4_hangs_389 ?_
                        refine z_iadd X dX4_hangs_390 ?_
                        refine zn_pcolumns X dX4_hangs_391 ?_
                        refine z_iconst X (n := 0) dX4_hangs_394 ?_
                        refine E (fcols (fa (fa M1 13 cx) 14 dx) ((n : Int) + 1)) (Or.inl rfl) ⟨⟨fun y y1 y2 y3 y4 => ?_, ?_, ?_, ?_⟩, Or.inr ⟨rfl, rfl, ?_⟩⟩ rfl dX4_hangs_395
                        · show (fa (fa M1 13 cx) 14 dx).1 y = M.1 y
                          rw [fa_ne _ _ y2, fa_ne _ _ y1, m3 y y3 y4]
                        · show M1.2.2.1 = _; rw [m5]
                        · show M1.2.2.2.1 = _; rw [m5]
                        · show M1.2.2.2.2.1 = _; rw [m5]
                        · show mh_I Vc (n + 1) ((fa (fa M1 13 cx) 14 dx).1 13) ((fa (fa M1 13 cx) 14 dx).1 14) M1.2.1
                          rw [fa_ne _ _ (by omega), fa_at, fa_at, m4]
                          refine mh_more hn hI (now := g) (mine := h) (p := hd.toNat) a1 a2 a3 (fun q hq => a4 q (by omega)) (by omega) hp3 cc1 (fun j hj => cc2 j (by omega)) dd1 (fun q hq => dd2 q (by omega)) (fun q hq => va_up_ne _ _ (by omega)) (va_up_self _ _ _)
                      | succ kloopD ihloopD =>
                        intro k dx lv ks e1loopD e2loopD dd1 dd2 hlvloopD
                        refine z_sub ks hlvloopD ?_
                        refine z_iload X 0 rfl dX4_hangs_339 ?_
                        refine z_bipush X (n := 98) (by decide) dX4_hangs_341 ?_
                        refine z_icmp_ge X (tgt := 384) (by omega) (by omega) dX4_hangs_343 (by decide) (fun hb343 => absurd hb343 (by omega)) (fun hb343 => ?_)
                        refine z_aload_n X 3 rfl rfl dX4_hangs_346 ?_
                        refine z_get X zinX4 0 (by omega) gM_O (ci := 6) rfl 17 (by decide) (ref := "TowerFieldsModel") zw688 rfl rfl dX4_hangs_347 ?_
                        refine z_bipush X (n := 98) (by decide) dX4_hangs_350 ?_
                        refine z_aload_n X 3 rfl rfl dX4_hangs_352 ?_
                        refine z_get X zinX4 0 (by omega) gM_O (ci := 6) rfl 14 (by decide) (ref := "TowerFieldsModel") zw685 rfl rfl dX4_hangs_353 ?_
                        refine z_eqi (b := (n : Int)) hc1 ?_
                        refine z_imul X dX4_hangs_356 ?_
                        refine z_iload X 0 rfl dX4_hangs_357 ?_
                        refine z_iadd X dX4_hangs_359 ?_
                        refine z_aload_n X 3 rfl rfl dX4_hangs_360 ?_
                        refine z_get X zinX4 0 (by omega) gM_O (ci := 6) rfl 19 (by decide) (ref := "TowerFieldsModel") zw690 rfl rfl dX4_hangs_361 ?_
                        refine z_iload X 0 rfl dX4_hangs_364 ?_
                        refine zn_ld X (by decide) 98 rfl (by omega) (by omega) (M1.1 16 (k).toNat) (by rw [fa_ne _ _ (by omega), fa_ne _ _ (by omega)]) dX4_hangs_366 ?_
                        refine z_i2l X (vz_lo _) (vz_hi _) dX4_hangs_367 ?_
                        refine z_iload X 1 rfl dX4_hangs_368 ?_
                        refine z_i2l X (vz_lo _) (vz_hi _) dX4_hangs_370 ?_
                        refine z_lmul X dX4_hangs_371 ?_
                        refine z_ldc2Z X zw746 dX4_hangs_372 ?_
                        refine z_lrem X vz_mul_nn (by have := @vz_mul_lt; exact Int.lt_of_le_of_lt vz_mul_lt (by omega)) dX4_hangs_375 ?_
                        refine z_l2i X dX4_hangs_376 ?_
                        refine z_eqi (b := vz (h (k).toNat * mf_inv (g (hd).toNat))) (by rw [m2]; exact vz_m _ _) ?_
                        refine zn_st X (by decide) 9604 rfl (by omega) (by omega) (h (k).toNat * mf_inv (g (hd).toNat)) rfl (fa (fa M1 13 cx) 14 ((va_up dx ((98 * ((n : Int))) + k).toNat (h (k).toNat * mf_inv (g (hd).toNat))))) (fa_st _ _ _ _ _) dX4_hangs_377 ?_
                        refine z_iinc X [(7, .int (iZ (k + 1))), (6, .int (iZ (vz (mf_inv (g (hd).toNat))))), (5, .int (iZ (hd))), (0, .ref (ad 0)), (1, .ref (ad (x))), (2, .int (iZ ((sh : Int)))), (3, .int (iZ ((n : Int)))), (4, .int (iZ (hh)))] 0 rfl rfl (by decide) dX4_hangs_378 ?_
                        refine z_goto X (tgt := 339) dX4_hangs_381 (by decide) ?_
                        refine ihloopD (k + 1) _ _ [0, 1, 2, 3, 4, 5, 6, 7] (by omega) (by omega) (fun z hz => ?_) (fun j hj => ?_) rfl
                        · rw [va_up_ne _ _ (by omega)]; exact dd1 z hz
                        · by_cases e : j = k.toNat
                          · rw [e, show 98 * n + k.toNat = (98 * (n : Int) + k).toNat by omega, va_up_self]
                          · rw [va_up_ne _ _ (by omega)]; exact dd2 j (by omega)
                    exact loopD 98 (0) (M1.1 14) _ [0, 1, 2, 3, 4, 5, 6, 7] (by omega) (by omega) (fun z hz => by rw [m3 14 (by omega) (by omega)]) (fun j hj => by omega) rfl
                  | succ kloopC ihloopC =>
                    intro k cx lv ks e1loopC e2loopC cc1 cc2 hlvloopC
                    refine z_sub ks hlvloopC ?_
                    refine z_iload X 0 rfl dX4_hangs_289 ?_
                    refine z_sipush X (n := 880) (by decide) dX4_hangs_291 ?_
                    refine z_icmp_ge X (tgt := 336) (by omega) (by omega) dX4_hangs_294 (by decide) (fun hb294 => absurd hb294 (by omega)) (fun hb294 => ?_)
                    refine z_aload_n X 3 rfl rfl dX4_hangs_297 ?_
                    refine z_get X zinX4 0 (by omega) gM_O (ci := 6) rfl 16 (by decide) (ref := "TowerFieldsModel") zw687 rfl rfl dX4_hangs_298 ?_
                    refine z_sipush X (n := 880) (by decide) dX4_hangs_301 ?_
                    refine z_aload_n X 3 rfl rfl dX4_hangs_304 ?_
                    refine z_get X zinX4 0 (by omega) gM_O (ci := 6) rfl 14 (by decide) (ref := "TowerFieldsModel") zw685 rfl rfl dX4_hangs_305 ?_
                    refine z_eqi (b := (n : Int)) hc1 ?_
                    refine z_imul X dX4_hangs_308 ?_
                    refine z_iload X 0 rfl dX4_hangs_309 ?_
                    refine z_iadd X dX4_hangs_311 ?_
                    refine z_aload_n X 3 rfl rfl dX4_hangs_312 ?_
                    refine z_get X zinX4 0 (by omega) gM_O (ci := 6) rfl 18 (by decide) (ref := "TowerFieldsModel") zw689 rfl rfl dX4_hangs_313 ?_
                    refine z_iload X 0 rfl dX4_hangs_316 ?_
                    refine zn_ld X (by decide) 880 rfl (by omega) (by omega) (M1.1 15 (k).toNat) (by rw [fa_ne _ _ (by omega)]) dX4_hangs_318 ?_
                    refine z_i2l X (vz_lo _) (vz_hi _) dX4_hangs_319 ?_
                    refine z_iload X 1 rfl dX4_hangs_320 ?_
                    refine z_i2l X (vz_lo _) (vz_hi _) dX4_hangs_322 ?_
                    refine z_lmul X dX4_hangs_323 ?_
                    refine z_ldc2Z X zw746 dX4_hangs_324 ?_
                    refine z_lrem X vz_mul_nn (by have := @vz_mul_lt; exact Int.lt_of_le_of_lt vz_mul_lt (by omega)) dX4_hangs_327 ?_
                    refine z_l2i X dX4_hangs_328 ?_
                    refine z_eqi (b := vz (g (k).toNat * mf_inv (g (hd).toNat))) (by rw [m1]; exact vz_m _ _) ?_
                    refine zn_st X (by decide) 86240 rfl (by omega) (by omega) (g (k).toNat * mf_inv (g (hd).toNat)) rfl (fa M1 13 ((va_up cx ((880 * ((n : Int))) + k).toNat (g (k).toNat * mf_inv (g (hd).toNat))))) (fa_st _ _ _ _ _) dX4_hangs_329 ?_
                    refine z_iinc X [(7, .int (iZ (k + 1))), (6, .int (iZ (vz (mf_inv (g (hd).toNat))))), (5, .int (iZ (hd))), (0, .ref (ad 0)), (1, .ref (ad (x))), (2, .int (iZ ((sh : Int)))), (3, .int (iZ ((n : Int)))), (4, .int (iZ (hh)))] 0 rfl rfl (by decide) dX4_hangs_330 ?_
                    refine z_goto X (tgt := 289) dX4_hangs_333 (by decide) ?_
                    refine ihloopC (k + 1) _ _ [0, 1, 2, 3, 4, 5, 6, 7] (by omega) (by omega) (fun z hz => ?_) (fun j hj => ?_) rfl
                    · rw [va_up_ne _ _ (by omega)]; exact cc1 z hz
                    · by_cases e : j = k.toNat
                      · rw [e, show 880 * n + k.toNat = (880 * (n : Int) + k).toNat by omega, va_up_self]
                      · rw [va_up_ne _ _ (by omega)]; exact cc2 j (by omega)
                exact loopC 880 (0) (M1.1 13) _ [0, 1, 2, 3, 4, 5, 6, 7] (by omega) (by omega) (fun z hz => by rw [m3 13 (by omega) (by omega)]) (fun j hj => by omega) rfl
              · refine z_iconst X (n := 1) dX4_hangs_261 ?_
                refine E (fa (fa M 15 g) 16 h) (Or.inr rfl) ⟨⟨fun y y1 y2 y3 y4 => by rw [fa_ne _ _ y4, fa_ne _ _ y3], rfl, rfl, rfl⟩, Or.inl ⟨rfl, ?_, ?_, ?_⟩⟩ rfl dX4_hangs_262
                · rw [fa_at]; exact a2
                · rw [fa_at]; exact a3
                · intro j hj
                  rw [fa_at, ← a1 j hj]
                  rcases hz9 with ⟨_, q⟩ | ⟨q, _⟩
                  · exact q j hj
                  · omega
            | succ kloop3 ihloop3 =>
              intro i g h lv ks e1loop3 e2loop3 a1 a2 a3 a4 hlvloop3
              refine z_sub ks hlvloop3 ?_
              refine z_iload X 0 rfl dX4_hangs_82 ?_
              refine z_aload_n X 1 rfl rfl dX4_hangs_84 ?_
              refine z_get X zinX4 0 (by omega) gM_O (ci := 6) rfl 14 (by decide) (ref := "TowerFieldsModel") zw685 rfl rfl dX4_hangs_85 ?_
              refine z_eqi (b := (n : Int)) hc ?_
              refine z_icmp_ge X (tgt := 244) (by omega) (by omega) dX4_hangs_88 (by decide) (fun hb88 => absurd hb88 (by omega)) (fun hb88 => ?_)
              have hpi := hI i.toNat (by omega)
              have hpi1 := hpi.1
              refine z_aload_n X 1 rfl rfl dX4_hangs_91 ?_
              refine z_get X zinX4 0 (by omega) gM_O (ci := 6) rfl 18 (by decide) (ref := "TowerFieldsModel") zw689 rfl rfl dX4_hangs_92 ?_
              refine z_aload_n X 1 rfl rfl dX4_hangs_95 ?_
              refine z_get X zinX4 0 (by omega) gM_O (ci := 6) rfl 15 (by decide) (ref := "TowerFieldsModel") zw686 rfl rfl dX4_hangs_96 ?_
              refine z_iload X 0 rfl dX4_hangs_99 ?_
              refine zn_ldp X (by omega) (by omega) (M.2.1 (i).toNat) rfl dX4_hangs_101 ?_
              refine zn_ld X (by decide) 880 rfl (by omega) (by omega) (g (M.2.1 i.toNat)) (by rw [fa_ne _ _ (by omega), fa_at] <;> rfl) dX4_hangs_102 ?_
              refine z_istore X [(6, .int (iZ (vz (g (M.2.1 i.toNat))))), (5, .int (iZ (i))), (0, .ref (ad 0)), (1, .ref (ad (x))), (2, .int (iZ ((sh : Int)))), (3, .int (iZ ((n : Int)))), (4, .int (iZ (hh)))] rfl (by decide) dX4_hangs_103 ?_
              refine z_iload X 0 rfl dX4_hangs_105 ?_
              refine z_if_ne X (tgt := 113) (by have := vz_nn (g (M.2.1 i.toNat)); have := vz_lt (g (M.2.1 i.toNat)); omega) dX4_hangs_107 (by decide) (fun hb107 => ?_) (fun hb107 => ?_)
              · refine z_iconst X (n := 0) dX4_hangs_113 ?_
                refine z_istore X [(7, .int (iZ (0))), (6, .int (iZ (vz (g (M.2.1 i.toNat))))), (5, .int (iZ (i))), (0, .ref (ad 0)), (1, .ref (ad (x))), (2, .int (iZ ((sh : Int)))), (3, .int (iZ ((n : Int)))), (4, .int (iZ (hh)))] rfl (by decide) dX4_hangs_114 ?_
                have loopA : ∀ (kloopA : Nat) (k : Int) (g1 : Nat → FP) (lv : List (Nat × Value)) (ks : List Nat), k + kloopA = 880 → 0 ≤ k → (∀ j : Nat, j < 880 → g1 j = if (j : Int) < k then g j - g (M.2.1 i.toNat) * M.1 13 (880 * i.toNat + j) else g j) → lv_pick lv ks = [(7, .int (iZ (k))), (6, .int (iZ (vz (g (M.2.1 i.toNat))))), (5, .int (iZ (i))), (0, .ref (ad 0)), (1, .ref (ad (x))), (2, .int (iZ ((sh : Int)))), (3, .int (iZ ((n : Int)))), (4, .int (iZ (hh)))] → Z p l e (zRm 1) s m args below meth c 8 D 18 ad A 0 0 Q 116 lv [] (gM ad cI (fa (fa M 15 g1) 16 h)) := by
                  intro kloopA
                  induction kloopA with
                  | zero =>
                    intro k g1 lv ks e1loopA e2loopA b1 hlvloopA
                    refine z_sub ks hlvloopA ?_
                    refine z_iload X 0 rfl dX4_hangs_116 ?_
                    refine z_sipush X (n := 880) (by decide) dX4_hangs_118 ?_
                    refine z_icmp_ge X (tgt := 185) (by omega) (by omega) dX4_hangs_121 (by decide) (fun hb121 => ?_) (fun hb121 => absurd hb121 (by omega))
                    refine z_iconst X (n := 0) dX4_hangs_185 ?_
                    refine z_istore X [(7, .int (iZ (0))), (6, .int (iZ (vz (g (M.2.1 i.toNat))))), (5, .int (iZ (i))), (0, .ref (ad 0)), (1, .ref (ad (x))), (2, .int (iZ ((sh : Int)))), (3, .int (iZ ((n : Int)))), (4, .int (iZ (hh)))] rfl (by decide) dX4_hangs_186 ?_
                    have loopB : ∀ (kloopB : Nat) (k : Int) (h1 : Nat → FP) (lv : List (Nat × Value)) (ks : List Nat), k + kloopB = 98 → 0 ≤ k → (∀ j : Nat, h1 j = if (j : Int) < k then h j - g (M.2.1 i.toNat) * M.1 14 (98 * i.toNat + j) else h j) → lv_pick lv ks = [(7, .int (iZ (k))), (6, .int (iZ (vz (g (M.2.1 i.toNat))))), (5, .int (iZ (i))), (0, .ref (ad 0)), (1, .ref (ad (x))), (2, .int (iZ ((sh : Int)))), (3, .int (iZ ((n : Int)))), (4, .int (iZ (hh)))] → Z p l e (zRm 1) s m args below meth c 8 D 18 ad A 0 0 Q 188 lv [] (gM ad cI (fa (fa M 15 g1) 16 h1)) := by
                      intro kloopB
                      induction kloopB with
                      | zero =>
                        intro k h1 lv ks e1loopB e2loopB c1 hlvloopB
                        refine z_sub ks hlvloopB ?_
                        refine z_iload X 0 rfl dX4_hangs_188 ?_
                        refine z_bipush X (n := 98) (by decide) dX4_hangs_190 ?_
                        refine z_icmp_ge X (tgt := 238) (by omega) (by omega) dX4_hangs_192 (by decide) (fun hb192 => ?_) (fun hb192 => absurd hb192 (by omega))
                        refine z_iinc X [(5, .int (iZ (i + 1))), (7, .int (iZ (k))), (6, .int (iZ (vz (g (M.2.1 i.toNat))))), (0, .ref (ad 0)), (1, .ref (ad (x))), (2, .int (iZ ((sh : Int)))), (3, .int (iZ ((n : Int)))), (4, .int (iZ (hh)))] 2 rfl rfl (by decide) dX4_hangs_238 ?_
                        refine z_goto X (tgt := 82) dX4_hangs_241 (by decide) ?_
                        refine ihloop3 (i + 1) g1 h1 _ [0, 3, 4, 5, 6, 7] (by omega) (by omega) ?_ ?_ ?_ ?_ rfl
                        · intro j hj
                          rw [b1 j hj, if_pos (by omega), a1 j hj, hpi.2.1 j hj, ← mp_S_mul, ← mk_S_sub]
                          exact mp_S_cong (fun q hq => by rw [c1 q, if_pos (by omega)]; grind)
                        · rw [c1 n, if_pos (by omega), a2, hpi.2.2.1 n (by omega) hn]; grind
                        · intro q hq hq2
                          rw [c1 q, if_pos (by omega), a3 q hq hq2, hpi.2.2.1 q (by omega) hq2]; grind
                        · intro q hq
                          have hq3 := hI q (by omega)
                          rw [b1 _ hq3.1, if_pos (by have := hq3.1; omega)]
                          by_cases e : q = i.toNat
                          · rw [e, hpi.2.2.2.2.1]; grind
                          · rw [a4 q (by omega), hq3.2.2.2.2.2 i.toNat (by omega) (by omega)]; grind
                      | succ kloopB ihloopB =>
                        intro k h1 lv ks e1loopB e2loopB c1 hlvloopB
                        refine z_sub ks hlvloopB ?_
                        refine z_iload X 0 rfl dX4_hangs_188 ?_
                        refine z_bipush X (n := 98) (by decide) dX4_hangs_190 ?_
                        refine z_icmp_ge X (tgt := 238) (by omega) (by omega) dX4_hangs_192 (by decide) (fun hb192 => absurd hb192 (by omega)) (fun hb192 => ?_)
                        refine z_aload_n X 3 rfl rfl dX4_hangs_195 ?_
                        refine z_get X zinX4 0 (by omega) gM_O (ci := 6) rfl 19 (by decide) (ref := "TowerFieldsModel") zw690 rfl rfl dX4_hangs_196 ?_
                        refine z_iload X 0 rfl dX4_hangs_199 ?_
                        refine z_aload_n X 3 rfl rfl dX4_hangs_201 ?_
                        refine z_get X zinX4 0 (by omega) gM_O (ci := 6) rfl 19 (by decide) (ref := "TowerFieldsModel") zw690 rfl rfl dX4_hangs_202 ?_
                        refine z_iload X 0 rfl dX4_hangs_205 ?_
                        refine zn_ld X (by decide) 98 rfl (by omega) (by omega) (h1 (k).toNat) (by rw [fa_at]) dX4_hangs_207 ?_
                        refine z_i2l X (vz_lo _) (vz_hi _) dX4_hangs_208 ?_
                        refine z_iload X 1 rfl dX4_hangs_209 ?_
                        refine z_i2l X (vz_lo _) (vz_hi _) dX4_hangs_211 ?_
                        refine z_aload_n X 3 rfl rfl dX4_hangs_212 ?_
                        refine z_get X zinX4 0 (by omega) gM_O (ci := 6) rfl 17 (by decide) (ref := "TowerFieldsModel") zw688 rfl rfl dX4_hangs_213 ?_
                        refine z_bipush X (n := 98) (by decide) dX4_hangs_216 ?_
                        refine z_iload X 2 rfl dX4_hangs_218 ?_
                        refine z_imul X dX4_hangs_220 ?_
                        refine z_iload X 0 rfl dX4_hangs_221 ?_
                        refine z_iadd X dX4_hangs_223 ?_
                        refine zn_ld X (by decide) 9604 rfl (by omega) (by omega) (M.1 14 ((98 * i) + k).toNat) (by rw [fa_ne _ _ (by omega), fa_ne _ _ (by omega)]) dX4_hangs_224 ?_
                        refine z_i2l X (vz_lo _) (vz_hi _) dX4_hangs_225 ?_
                        refine z_lmul X dX4_hangs_226 ?_
                        refine z_lsub X dX4_hangs_227 ?_
                        have q1 := vz_nn (h1 k.toNat)
                        have q2 := vz_lt (h1 k.toNat)
                        have q3 := @vz_mul_nn (g (M.2.1 i.toNat)) (M.1 14 (98 * i + k).toNat)
                        have q4 := @vz_mul_lt (g (M.2.1 i.toNat)) (M.1 14 (98 * i + k).toNat)
                        refine z_callSi X zm_X4_modulo zw744 zw743 (zFit_of (by decide) (by decide)) [.long (lZ ((vz (h1 (k).toNat)) - ((vz (g (M.2.1 i.toNat))) * (vz (M.1 14 ((98 * i) + k).toNat)))))] (c_X4_modulo l (gM ad cI (fa (fa M 15 g1) 16 h1)) (a := vz (h1 k.toNat) - vz (g (M.2.1 i.toNat)) * vz (M.1 14 (98 * i + k).toNat)) (by omega) (by omega)) rfl rfl (Nat.le_of_ble_eq_true rfl) dX4_hangs_228 (fun z _ hz => ?_)
                        subst hz
                        refine z_eqi (b := vz (h k.toNat - g (M.2.1 i.toNat) * M.1 14 (98 * i.toNat + k.toNat))) (by rw [mI_sub, mI_mul, mI_vz, mI_vz, mI_vz, c1 _, if_neg (by omega), show (98 * i + k).toNat = 98 * i.toNat + k.toNat by omega]) ?_
                        refine zn_st X (by decide) 98 rfl (by omega) (by omega) (h k.toNat - g (M.2.1 i.toNat) * M.1 14 (98 * i.toNat + k.toNat)) rfl (fa (fa M 15 g1) 16 ((va_up h1 (k).toNat (h k.toNat - g (M.2.1 i.toNat) * M.1 14 (98 * i.toNat + k.toNat))))) (fa_st _ _ _ _ _) dX4_hangs_231 ?_
                        refine z_iinc X [(7, .int (iZ (k + 1))), (6, .int (iZ (vz (g (M.2.1 i.toNat))))), (5, .int (iZ (i))), (0, .ref (ad 0)), (1, .ref (ad (x))), (2, .int (iZ ((sh : Int)))), (3, .int (iZ ((n : Int)))), (4, .int (iZ (hh)))] 0 rfl rfl (by decide) dX4_hangs_232 ?_
                        refine z_goto X (tgt := 188) dX4_hangs_235 (by decide) ?_
                        refine ihloopB (k + 1) _ _ [0, 1, 2, 3, 4, 5, 6, 7] (by omega) (by omega) (fun j => ?_) rfl
                        by_cases e : j = k.toNat
                        · rw [e, va_up_self, if_pos (by omega)]
                        · rw [va_up_ne _ _ e, c1 j]
                          by_cases e2 : (j : Int) < k
                          · rw [if_pos e2, if_pos (by omega)]
                          · rw [if_neg e2, if_neg (by omega)]
                    exact loopB 98 (0) h _ [0, 1, 2, 3, 4, 5, 6, 7] (by omega) (by omega) (fun j => by rw [if_neg (by omega)]) rfl
                  | succ kloopA ihloopA =>
                    intro k g1 lv ks e1loopA e2loopA b1 hlvloopA
                    refine z_sub ks hlvloopA ?_
                    refine z_iload X 0 rfl dX4_hangs_116 ?_
                    refine z_sipush X (n := 880) (by decide) dX4_hangs_118 ?_
                    refine z_icmp_ge X (tgt := 185) (by omega) (by omega) dX4_hangs_121 (by decide) (fun hb121 => absurd hb121 (by omega)) (fun hb121 => ?_)
                    refine z_aload_n X 3 rfl rfl dX4_hangs_124 ?_
                    refine z_get X zinX4 0 (by omega) gM_O (ci := 6) rfl 16 (by decide) (ref := "TowerFieldsModel") zw687 rfl rfl dX4_hangs_125 ?_
                    refine z_sipush X (n := 880) (by decide) dX4_hangs_128 ?_
                    refine z_iload X 2 rfl dX4_hangs_131 ?_
                    refine z_imul X dX4_hangs_133 ?_
                    refine z_iload X 0 rfl dX4_hangs_134 ?_
                    refine z_iadd X dX4_hangs_136 ?_
                    refine zn_ld X (by decide) 86240 rfl (by omega) (by omega) (M.1 13 ((880 * i) + k).toNat) (by rw [fa_ne _ _ (by omega), fa_ne _ _ (by omega)]) dX4_hangs_137 ?_
                    refine z_if_eq X (tgt := 179) (by have := vz_nn (M.1 13 (880 * i + k).toNat); have := vz_lt (M.1 13 (880 * i + k).toNat); omega) dX4_hangs_138 (by decide) (fun hb138 => ?_) (fun hb138 => ?_)
                    · refine z_iinc X [(7, .int (iZ (k + 1))), (6, .int (iZ (vz (g (M.2.1 i.toNat))))), (5, .int (iZ (i))), (0, .ref (ad 0)), (1, .ref (ad (x))), (2, .int (iZ ((sh : Int)))), (3, .int (iZ ((n : Int)))), (4, .int (iZ (hh)))] 0 rfl rfl (by decide) dX4_hangs_179 ?_
                      refine z_goto X (tgt := 116) dX4_hangs_182 (by decide) ?_
                      refine ihloopA (k + 1) _ _ [0, 1, 2, 3, 4, 5, 6, 7] (by omega) (by omega) (fun j hj => ?_) rfl
                      by_cases e : j = k.toNat
                      · rw [e, if_pos (by omega), b1 _ (by omega), if_neg (by omega), show 880 * i.toNat + k.toNat = (880 * i + k).toNat by omega, vz_z.mp hb138]; grind
                      · rw [b1 j hj]
                        by_cases e2 : (j : Int) < k
                        · rw [if_pos e2, if_pos (by omega)]
                        · rw [if_neg e2, if_neg (by omega)]
                    · refine z_aload_n X 3 rfl rfl dX4_hangs_141 ?_
                      refine z_get X zinX4 0 (by omega) gM_O (ci := 6) rfl 18 (by decide) (ref := "TowerFieldsModel") zw689 rfl rfl dX4_hangs_142 ?_
                      refine z_iload X 0 rfl dX4_hangs_145 ?_
                      refine z_aload_n X 3 rfl rfl dX4_hangs_147 ?_
                      refine z_get X zinX4 0 (by omega) gM_O (ci := 6) rfl 18 (by decide) (ref := "TowerFieldsModel") zw689 rfl rfl dX4_hangs_148 ?_
                      refine z_iload X 0 rfl dX4_hangs_151 ?_
                      refine zn_ld X (by decide) 880 rfl (by omega) (by omega) (g1 (k).toNat) (by rw [fa_ne _ _ (by omega), fa_at]) dX4_hangs_153 ?_
                      refine z_i2l X (vz_lo _) (vz_hi _) dX4_hangs_154 ?_
                      refine z_iload X 1 rfl dX4_hangs_155 ?_
                      refine z_i2l X (vz_lo _) (vz_hi _) dX4_hangs_157 ?_
                      refine z_aload_n X 3 rfl rfl dX4_hangs_158 ?_
                      refine z_get X zinX4 0 (by omega) gM_O (ci := 6) rfl 16 (by decide) (ref := "TowerFieldsModel") zw687 rfl rfl dX4_hangs_159 ?_
                      refine z_sipush X (n := 880) (by decide) dX4_hangs_162 ?_
                      refine z_iload X 2 rfl dX4_hangs_165 ?_
                      refine z_imul X dX4_hangs_167 ?_
                      refine z_iload X 0 rfl dX4_hangs_168 ?_
                      refine z_iadd X dX4_hangs_170 ?_
                      refine zn_ld X (by decide) 86240 rfl (by omega) (by omega) (M.1 13 ((880 * i) + k).toNat) (by rw [fa_ne _ _ (by omega), fa_ne _ _ (by omega)]) dX4_hangs_171 ?_
                      refine z_i2l X (vz_lo _) (vz_hi _) dX4_hangs_172 ?_
                      refine z_lmul X dX4_hangs_173 ?_
                      refine z_lsub X dX4_hangs_174 ?_
                      have q1 := vz_nn (g1 k.toNat)
                      have q2 := vz_lt (g1 k.toNat)
                      have q3 := @vz_mul_nn (g (M.2.1 i.toNat)) (M.1 13 (880 * i + k).toNat)
                      have q4 := @vz_mul_lt (g (M.2.1 i.toNat)) (M.1 13 (880 * i + k).toNat)
                      refine z_callSi X zm_X4_modulo zw744 zw743 (zFit_of (by decide) (by decide)) [.long (lZ ((vz (g1 (k).toNat)) - ((vz (g (M.2.1 i.toNat))) * (vz (M.1 13 ((880 * i) + k).toNat)))))] (c_X4_modulo l (gM ad cI (fa (fa M 15 g1) 16 h)) (a := vz (g1 k.toNat) - vz (g (M.2.1 i.toNat)) * vz (M.1 13 (880 * i + k).toNat)) (by omega) (by omega)) rfl rfl (Nat.le_of_ble_eq_true rfl) dX4_hangs_175 (fun z _ hz => ?_)
                      subst hz
                      refine z_eqi (b := vz (g k.toNat - g (M.2.1 i.toNat) * M.1 13 (880 * i.toNat + k.toNat))) (by rw [mI_sub, mI_mul, mI_vz, mI_vz, mI_vz, b1 _ (by omega), if_neg (by omega), show (880 * i + k).toNat = 880 * i.toNat + k.toNat by omega]) ?_
                      refine zn_st X (by decide) 880 rfl (by omega) (by omega) (g k.toNat - g (M.2.1 i.toNat) * M.1 13 (880 * i.toNat + k.toNat)) rfl (fa (fa M 15 ((va_up g1 (k).toNat (g k.toNat - g (M.2.1 i.toNat) * M.1 13 (880 * i.toNat + k.toNat))))) 16 h) (fa_st2 _ _ _ _ _ (by omega)) dX4_hangs_178 ?_
                      refine z_iinc X [(7, .int (iZ (k + 1))), (6, .int (iZ (vz (g (M.2.1 i.toNat))))), (5, .int (iZ (i))), (0, .ref (ad 0)), (1, .ref (ad (x))), (2, .int (iZ ((sh : Int)))), (3, .int (iZ ((n : Int)))), (4, .int (iZ (hh)))] 0 rfl rfl (by decide) dX4_hangs_179 ?_
                      refine z_goto X (tgt := 116) dX4_hangs_182 (by decide) ?_
                      refine ihloopA (k + 1) _ _ [0, 1, 2, 3, 4, 5, 6, 7] (by omega) (by omega) (fun j hj => ?_) rfl
                      by_cases e : j = k.toNat
                      · rw [e, va_up_self, if_pos (by omega)]
                      · rw [va_up_ne _ _ e, b1 j hj]
                        by_cases e2 : (j : Int) < k
                        · rw [if_pos e2, if_pos (by omega)]
                        · rw [if_neg e2, if_neg (by omega)]
                exact loopA 880 (0) g _ [0, 1, 2, 3, 4, 5, 6, 7] (by omega) (by omega) (fun j hj => by rw [if_neg (by omega)]) rfl
              · refine z_goto X (tgt := 238) dX4_hangs_110 (by decide) ?_
                refine z_iinc X [(5, .int (iZ (i + 1))), (6, .int (iZ (vz (g (M.2.1 i.toNat))))), (0, .ref (ad 0)), (1, .ref (ad (x))), (2, .int (iZ ((sh : Int)))), (3, .int (iZ ((n : Int)))), (4, .int (iZ (hh)))] 1 rfl rfl (by decide) dX4_hangs_238 ?_
                refine z_goto X (tgt := 82) dX4_hangs_241 (by decide) ?_
                refine ihloop3 (i + 1) _ _ _ [0, 2, 3, 4, 5, 6] (by omega) (by omega) a1 a2 a3 (fun q hq => ?_) rfl
                by_cases e : q = i.toNat
                · rw [e]; exact vz_z.mp (by omega)
                · exact a4 q (by omega)
          exact loop3 n (0) f h _ [0, 1, 2, 3, 4, 5] (by omega) (by omega) b1 b2 b3 (fun q hq => by omega) rfl
        | succ kloop2 ihloop2 =>
          intro i h lv ks e1loop2 e2loop2 c3 hlvloop2
          refine z_sub ks hlvloop2 ?_
          refine z_iload X 0 rfl dX4_hangs_48 ?_
          refine z_bipush X (n := 98) (by decide) dX4_hangs_50 ?_
          refine z_icmp_ge X (tgt := 79) (by omega) (by omega) dX4_hangs_52 (by decide) (fun hb52 => absurd hb52 (by omega)) (fun hb52 => ?_)
          refine z_aload_n X 1 rfl rfl dX4_hangs_55 ?_
          refine z_get X zinX4 0 (by omega) gM_O (ci := 6) rfl 19 (by decide) (ref := "TowerFieldsModel") zw690 rfl rfl dX4_hangs_56 ?_
          refine z_iload X 0 rfl dX4_hangs_59 ?_
          refine z_iload X 0 rfl dX4_hangs_61 ?_
          refine z_iload_n X 4 rfl rfl dX4_hangs_63 ?_
          refine z_icmp_ne X (tgt := 71) (by omega) (by omega) dX4_hangs_64 (by decide) (fun hb64 => ?_) (fun hb64 => ?_)
          · refine z_iconst X (n := 0) dX4_hangs_71 ?_
            refine zn_st X (by decide) 98 rfl (by omega) (by omega) (0) rfl (fa (fa M 15 f) 16 ((va_up h (i).toNat (0)))) (fa_st _ _ _ _ _) dX4_hangs_72 ?_
            refine z_iinc X [(5, .int (iZ (i + 1))), (0, .ref (ad 0)), (1, .ref (ad (x))), (2, .int (iZ ((sh : Int)))), (3, .int (iZ ((n : Int)))), (4, .int (iZ (hh)))] 0 rfl rfl (by decide) dX4_hangs_73 ?_
            refine z_goto X (tgt := 48) dX4_hangs_76 (by decide) ?_
            refine ihloop2 (i + 1) _ _ [0, 1, 2, 3, 4, 5] (by omega) (by omega) (fun j hj => ?_) rfl
            by_cases e : j = i.toNat
            · rw [e, va_up_self, if_neg (by omega)]
            · rw [va_up_ne _ _ e]; exact c3 j (by omega)
          · refine z_iconst X (n := 1) dX4_hangs_67 ?_
            refine z_goto X (tgt := 72) dX4_hangs_68 (by decide) ?_
            refine zn_st X (by decide) 98 rfl (by omega) (by omega) (1) rfl (fa (fa M 15 f) 16 ((va_up h (i).toNat (1)))) (fa_st _ _ _ _ _) dX4_hangs_72 ?_
            refine z_iinc X [(5, .int (iZ (i + 1))), (0, .ref (ad 0)), (1, .ref (ad (x))), (2, .int (iZ ((sh : Int)))), (3, .int (iZ ((n : Int)))), (4, .int (iZ (hh)))] 0 rfl rfl (by decide) dX4_hangs_73 ?_
            refine z_goto X (tgt := 48) dX4_hangs_76 (by decide) ?_
            refine ihloop2 (i + 1) _ _ [0, 1, 2, 3, 4, 5] (by omega) (by omega) (fun j hj => ?_) rfl
            by_cases e : j = i.toNat
            · rw [e, va_up_self, if_pos (by omega)]
            · rw [va_up_ne _ _ e]; exact c3 j (by omega)
      exact loop2 98 (0) (M.1 16) _ [0, 1, 2, 3, 4, 5] (by omega) (by omega) (fun j hj => by omega) rfl
    | succ kloop ihloop =>
      intro i f lv ks e1loop e2loop h3 hlvloop
      refine z_sub ks hlvloop ?_
      refine z_iload X 0 rfl dX4_hangs_19 ?_
      refine z_iload X 5 rfl dX4_hangs_21 ?_
      refine z_icmp_gt X (tgt := 45) (by omega) (by omega) dX4_hangs_23 (by decide) (fun hb23 => absurd hb23 (by omega)) (fun hb23 => ?_)
      refine z_aload_n X 1 rfl rfl dX4_hangs_26 ?_
      refine z_get X zinX4 0 (by omega) gM_O (ci := 6) rfl 18 (by decide) (ref := "TowerFieldsModel") zw689 rfl rfl dX4_hangs_27 ?_
      refine z_iload X 0 rfl dX4_hangs_30 ?_
      refine z_iload_n X 3 rfl rfl dX4_hangs_32 ?_
      refine z_iadd X dX4_hangs_33 ?_
      refine z_aload_n X 2 rfl rfl dX4_hangs_34 ?_
      refine z_iload X 0 rfl dX4_hangs_35 ?_
      refine zn_ld X (zA_o hx) 880 (zA_n hx) (by omega) (by omega) (M.1 x (i).toNat) (by rw [fa_ne _ _ (by omega)]) dX4_hangs_37 ?_
      refine zn_st X (by decide) 880 rfl (by omega) (by omega) (M.1 x (i).toNat) rfl (fa M 15 ((va_up f (i + ((sh : Int))).toNat (M.1 x (i).toNat)))) (fa_st _ _ _ _ _) dX4_hangs_38 ?_
      refine z_iinc X [(5, .int (iZ (i + 1))), (0, .ref (ad 0)), (1, .ref (ad (x))), (2, .int (iZ ((sh : Int)))), (3, .int (iZ ((n : Int)))), (4, .int (iZ (hh)))] 0 rfl rfl (by decide) dX4_hangs_39 ?_
      refine z_goto X (tgt := 19) dX4_hangs_42 (by decide) ?_
      refine ihloop (i + 1) _ _ [0, 1, 2, 3, 4, 5] (by omega) (by omega) (fun j hj => ?_) rfl
      by_cases e : j = (i + (sh : Int)).toNat
      · rw [e, va_up_self, if_pos ⟨by omega, by omega⟩]
        exact congrArg (M.1 x) (by omega)
      · rw [va_up_ne _ _ e, h3 j hj]
        by_cases e2 : sh ≤ j ∧ (j : Int) - sh < i
        · rw [if_pos e2, if_pos ⟨e2.1, by omega⟩]
        · rw [if_neg e2, if_neg (fun q => e2 ⟨q.1, by omega⟩)]
  exact loop ((hh + 1).toNat) (0) f0 _ [0, 2, 3, 4, 5, 1] (by omega) (by omega) (fun j hj => by rw [hf0 j hj, if_neg (by omega)]) rfl
