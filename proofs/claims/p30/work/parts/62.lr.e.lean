/-! ### the law's hour -/
theorem l_power {K G : cr_G} {t x r : Nat} (ht : t < 6) (hr : r ≤ 50) (hx : x ≤ 99) (hG : G 0 (7 * t + 2) = nI r) : s_L_power K G (nI t) (nI x) = some (nI (fw r x)) := by
  unfold fw
  by_cases h1 : x < 3
  · simp (disch := omega) only [s_L_power, pm_lit, pm_C, h1, true_or, ↓reduceIte]
  · by_cases h2 : x ≤ 25
    · have h3 : ¬ 25 < x := by omega
      by_cases h6 : x ≤ 12
      · have h7 : min x 12 = x := by omega
        have h5 : r * x ≤ 50 * 12 := Nat.mul_le_mul hr (by omega)
        simp (disch := omega) only [s_L_power, pm_lit, pm_C, h1, h2, h3, h6, h7, or_self, pk_mul, pm_S, pm_gd, hG, pk_div, ↓reduceIte]
      · have h7 : min x 12 = 12 := by omega
        have h8 : r * 12 / 12 = r := by omega
        simp (disch := omega) only [s_L_power, pm_lit, pm_C, h1, h2, h3, h6, h7, h8, or_self, pk_mul, pm_S, pm_gd, hG, ↓reduceIte]
    · have h3 : 25 < x := by omega
      simp (disch := omega) only [s_L_power, pm_lit, pm_C, h1, h2, h3, or_true, ↓reduceIte]
theorem mcs_q : ∀ k, k < 5 → mcs (9 + k) = 177 + k := by decide
theorem l_share {nT : Nat} (K G : cr_G) (hT6 : nT ≤ 6) (x1 : Int32) (c x : Nat) (hc : c ≤ 4) (hx : x ≤ 99) : ∀ (d k n : Nat) (s : Int32) (a b Z : Nat → Int32), nT - k = d → d < n → k ≤ nT → aT nT a Z → aC b Z → Z 70 = nI nT → K 1 3 = Z 74 → jF nT Z → ∃ (m : Nat) (a' b' : Nat → Int32), s_L_hour_205 K n (nI x) x1 (nI c) s (nI k) (cr_pa (cr_pa G 0 a) 3 b) = s_L_hour_205 K (m + 1) (nI x) x1 (nI c) (ms x1 c x d k s Z) (nI nT) (cr_pa (cr_pa G 0 a') 3 b') ∧ aT nT a' (mz x1 c x d k Z) ∧ aC b' (mz x1 c x d k Z) := by
  intro d
  induction d with
  | zero =>
    intro k n s a b Z hd hn hk hA hC h70 hK hF
    obtain ⟨n, rfl⟩ : ∃ m, n = m + 1 := ⟨n - 1, by omega⟩
    obtain rfl : k = nT := by omega
    exact ⟨n, a, b, rfl, hA, hC⟩
  | succ d ih =>
    intro k n s a b Z hd hn hk hA hC h70 hK hF
    obtain ⟨n, rfl⟩ : ∃ m, n = m + 1 := ⟨n - 1, by omega⟩
    have hck : ¬ nT ≤ k := by omega
    have hkt : k < nT := by omega
    obtain ⟨⟨r, hr, hzr⟩, f, hf4, hzf⟩ := hF k hkt
    have hp : pwr x k Z = nI (fw r x) := by unfold pwr; rw [hzr, nI_clamp (by omega)]
    have hpw := l_power (K := K) (G := cr_pa (cr_pa G 0 a) 3 b) (t := k) (x := x) (r := r) (by omega) hr hx (by rw [pm_pan _ _ (by omega), pm_pa, aT2 hA hkt]; exact hzr)
    have h6 : b 6 = nI nT := (aC6 hC).trans h70
    have go : ∀ (c' : Nat) (u : Int32), cau x1 c k = c' → lst x1 c x k Z = u → c' ≤ 4 → s_L_hour_205 K (n + 1) (nI x) x1 (nI c) s (nI k) (cr_pa (cr_pa G 0 a) 3 b) = s_L_hour_265 K (fun x8a x9a x10a x11a x12a Ga => s_L_hour_205 K n x8a x9a x10a x11a x12a Ga) (nI x) x1 (nI c) s (nI k) (nI (fw r x)) (nI c') u (cr_pa (cr_pa G 0 a) 3 b) → ∃ (m : Nat) (a' b' : Nat → Int32), s_L_hour_205 K (n + 1) (nI x) x1 (nI c) s (nI k) (cr_pa (cr_pa G 0 a) 3 b) = s_L_hour_205 K (m + 1) (nI x) x1 (nI c) (ms x1 c x (d + 1) k s Z) (nI nT) (cr_pa (cr_pa G 0 a') 3 b') ∧ aT nT a' (mz x1 c x (d + 1) k Z) ∧ aC b' (mz x1 c x (d + 1) k Z) := by
      intro c' u hcu hlu hc4 hm
      have hs : shs x1 c x k Z = upd (upd (upd Z (50 + k) (Z (50 + k) + u)) (60 + k) (Z (60 + k) + (nI (fw r x) - u))) (177 + c') (Z (177 + c') + u) := by
        unfold shs
        rw [hcu, hlu, hp]
      have so : ∀ i, i ≠ 50 + k → i ≠ 60 + k → i ≠ 177 + c' → shs x1 c x k Z i = Z i := fun i h1 h2 h3 => shs_o h1 h2 (by rw [hcu]; exact h3)
      -- the rows behind the share
      have hA1 : aT nT (upd (upd a (7 * k + 5) (Z (50 + k) + u)) (7 * k + 6) (Z (60 + k) + (nI (fw r x) - u))) (shs x1 c x k Z) := by
        rw [hs]
        exact aT_c (aT_u (i0 := 6) _ (aT_u (i0 := 5) _ hA (by omega) hkt (by omega)) (by omega) hkt (by omega)) (by omega) (fun i hi => by rw [pm_un _ _ (by omega)])
      have hC1 : aC (upd b (9 + c') (Z (177 + c') + u)) (shs x1 c x k Z) := by
        have h9 := aC_u (k0 := 9 + c') (Z (177 + c') + u) hC (by omega)
        rw [mcs_q c' (by omega)] at h9
        refine aC_c h9 (fun i hi => ?_)
        by_cases ei : i = 177 + c'
        · subst ei
          rw [hs, pm_u, pm_u]
        · rw [so i (by omega) (by omega) ei, pm_un _ _ ei]
      have hz3 : shs x1 c x k Z (30 + k) = nI f := (so _ (by omega) (by omega) (by omega)).trans hzf
      have hz7 : shs x1 c x k Z 74 = Z 74 := so _ (by omega) (by omega) (by omega)
      have t3 := (aT3 hA1 hkt).trans hz3
      have t4 := aT4 hA1 hkt
      have h70s : shs x1 c x k Z 70 = nI nT := (so _ (by omega) (by omega) (by omega)).trans h70
      have hFs : jF nT (shs x1 c x k Z) := fun t ht => by
        rw [so _ (by omega) (by omega) (by omega), so _ (by omega) (by omega) (by omega)]
        exact hF t ht
      rw [ms, mz, hlu]
      -- what follows, by what worsens
      have stay : wos x1 c k (shs x1 c x k Z) = shs x1 c x k Z → s_L_hour_205 K (n + 1) (nI x) x1 (nI c) s (nI k) (cr_pa (cr_pa G 0 a) 3 b) = s_L_hour_205 K n (nI x) x1 (nI c) (s + u) (nI (k + 1)) (cr_pa (cr_pa G 0 (upd (upd a (7 * k + 5) (Z (50 + k) + u)) (7 * k + 6) (Z (60 + k) + (nI (fw r x) - u)))) 3 (upd b (9 + c') (Z (177 + c') + u))) → ∃ (m : Nat) (a' b' : Nat → Int32), s_L_hour_205 K (n + 1) (nI x) x1 (nI c) s (nI k) (cr_pa (cr_pa G 0 a) 3 b) = s_L_hour_205 K (m + 1) (nI x) x1 (nI c) (ms x1 c x d (k + 1) (s + u) (wos x1 c k (shs x1 c x k Z))) (nI nT) (cr_pa (cr_pa G 0 a') 3 b') ∧ aT nT a' (mz x1 c x d (k + 1) (wos x1 c k (shs x1 c x k Z))) ∧ aC b' (mz x1 c x d (k + 1) (wos x1 c k (shs x1 c x k Z))) := by
        intro e1 e2
        rw [e1, e2]
        exact ih (k + 1) n (s + u) _ _ _ (by omega) (by omega) (by omega) hA1 hC1 h70s (by rw [hz7]; exact hK) hFs
      by_cases sk : c' = 4
      · refine stay (by unfold wos; rw [if_pos (Or.inl (hcu.trans sk))]) ?_
        rw [hm]
        subst sk
        simp (disch := omega) only [s_L_hour_265, ↓pm_bd, pm_lit, pk_mul, pm_S, pm_gd, pm_ptn, aT5 hA hkt, aT6 hA hkt, aCq hC (show 4 < 5 by omega), ↓reduceIte]
      · by_cases w0 : f = 0
        · refine stay (by unfold wos; rw [if_pos (Or.inr (Or.inl (by rw [hz3, w0])))]) ?_
          rw [hm]
          rw [w0] at t3
          simp (disch := omega) only [s_L_hour_265, ↓pm_bd, pm_lit, pk_mul, pm_S, pm_gd, pm_ptn, aT5 hA hkt, aT6 hA hkt, aCq hC (show c' < 5 by omega), pm_C, sk, (aT3 hA hkt).trans hzf, w0, ↓reduceIte]
        · by_cases w4 : f = 4
          · refine stay (by unfold wos; rw [if_pos (Or.inr (Or.inr (by rw [hz3, w4])))]) ?_
            rw [hm]
            have n40 : ¬ (4 : Nat) = 0 := by omega
            simp (disch := omega) only [s_L_hour_265, ↓pm_bd, pm_lit, pk_mul, pm_S, pm_gd, pm_ptn, aT5 hA hkt, aT6 hA hkt, aCq hC (show c' < 5 by omega), pm_C, sk, (aT3 hA hkt).trans hzf, w4, n40, ↓reduceIte]
          · have hno : ¬ (cau x1 c k = 4 ∨ shs x1 c x k Z (30 + k) = nI 0 ∨ shs x1 c x k Z (30 + k) = nI 4) := by
              rw [hcu, hz3, nI_eq (by omega) (by omega), nI_eq (by omega) (by omega)]
              omega
            have hz4 : shs x1 c x k Z (40 + k) = Z (40 + k) := so _ (by omega) (by omega) (by omega)
            by_cases aw : Z (40 + k) + nI 1 < Z 74
            · have e9 : wos x1 c k (shs x1 c x k Z) = upd (shs x1 c x k Z) (40 + k) (Z (40 + k) + nI 1) := by
                unfold wos
                rw [hz4, hz7] at *
                rw [if_neg hno, if_pos aw]
              have aw' : ¬ Z 74 ≤ Z (40 + k) + nI 1 := Int32.not_le.mpr aw
              rw [e9]
              obtain ⟨m, a', b', i1, i2, i3⟩ := ih (k + 1) n (s + u) (upd (upd (upd a (7 * k + 5) (Z (50 + k) + u)) (7 * k + 6) (Z (60 + k) + (nI (fw r x) - u))) (7 * k + 4) (Z (40 + k) + nI 1)) (upd b (9 + c') (Z (177 + c') + u)) (upd (shs x1 c x k Z) (40 + k) (Z (40 + k) + nI 1)) (by omega) (by omega) (by omega) (aT_u (i0 := 4) _ hA1 (by omega) hkt (by omega)) (aC_c hC1 (fun i hi => by rw [pm_un _ _ (by omega)])) (by rw [pm_un _ _ (by omega)]; exact h70s) (by rw [pm_un _ _ (by omega), hz7]; exact hK) (fun t ht => by rw [pm_un _ _ (by omega), pm_un _ _ (by omega)]; exact hFs t ht)
              refine ⟨m, a', b', ?_, i2, i3⟩
              rw [← i1, hm]
              simp (disch := omega) only [s_L_hour_265, ↓pm_bd, pm_lit, pk_mul, pm_S, pm_gd, pm_ptn, aT5 hA hkt, aT6 hA hkt, aT4 hA hkt, aCq hC (show c' < 5 by omega), pm_C, sk, (aT3 hA hkt).trans hzf, w0, w4, hK, aw', ↓reduceIte]
            · have e9 : wos x1 c k (shs x1 c x k Z) = upd (upd (shs x1 c x k Z) (40 + k) (nI 0)) (30 + k) (nI (f + 1)) := by
                have e10 : ¬ shs x1 c x k Z (40 + k) + nI 1 < shs x1 c x k Z 74 := by rw [hz4, hz7]; exact aw
                unfold wos
                rw [if_neg hno, if_neg e10, hz3, pm_add]
              have aw' : Z 74 ≤ Z (40 + k) + nI 1 := Int32.not_lt.mp aw
              rw [e9]
              obtain ⟨m, a', b', i1, i2, i3⟩ := ih (k + 1) n (s + u) (upd (upd (upd (upd (upd a (7 * k + 5) (Z (50 + k) + u)) (7 * k + 6) (Z (60 + k) + (nI (fw r x) - u))) (7 * k + 4) (Z (40 + k) + nI 1)) (7 * k + 3) (nI (f + 1))) (7 * k + 4) (nI 0)) (upd b (9 + c') (Z (177 + c') + u)) (upd (upd (shs x1 c x k Z) (40 + k) (nI 0)) (30 + k) (nI (f + 1))) (by omega) (by omega) (by omega) (by
                  have h9 := aT_u (i0 := 4) (nI 0) (aT_u (i0 := 3) (nI (f + 1)) (aT_u (i0 := 4) (Z (40 + k) + nI 1) hA1 (by omega) hkt (by omega)) (by omega) hkt (by omega)) (by omega) hkt (by omega)
                  have e11 : upd (upd (upd (shs x1 c x k Z) (10 * 4 + k) (Z (40 + k) + nI 1)) (10 * 3 + k) (nI (f + 1))) (10 * 4 + k) (nI 0) = upd (upd (shs x1 c x k Z) (40 + k) (nI 0)) (30 + k) (nI (f + 1)) := by
                    show upd (upd (upd (shs x1 c x k Z) (40 + k) (Z (40 + k) + nI 1)) (30 + k) (nI (f + 1))) (40 + k) (nI 0) = _
                    rw [upd_comm (a := 30 + k) (b := 40 + k) (by omega), upd_upd]
                  rw [e11] at h9
                  exact h9) (aC_c hC1 (fun i hi => by rw [pm_un _ _ (by omega), pm_un _ _ (by omega)])) (by rw [pm_un _ _ (by omega), pm_un _ _ (by omega)]; exact h70s) (by rw [pm_un _ _ (by omega), pm_un _ _ (by omega), hz7]; exact hK) (fun t ht => by
                  rw [pm_un _ _ (by omega), pm_un _ _ (by omega)]
                  refine ⟨(hFs t ht).1, ?_⟩
                  by_cases et : t = k
                  · subst et
                    rw [pm_u]
                    exact ⟨f + 1, by omega, rfl⟩
                  · rw [pm_un _ _ (by omega), pm_un _ _ (by omega)]
                    exact (hFs t ht).2)
              refine ⟨m, a', b', ?_, i2, i3⟩
              rw [← i1, hm]
              simp (disch := omega) only [s_L_hour_265, ↓pm_bd, pm_lit, pk_mul, pm_S, pm_gd, pm_ptn, aT5 hA hkt, aT6 hA hkt, aT4 hA hkt, aCq hC (show c' < 5 by omega), pm_C, sk, (aT3 hA hkt).trans hzf, w0, w4, hK, aw', ↓reduceIte]
    by_cases e1 : nI k = x1
    · have hca : cau x1 c k = c := by unfold cau; rw [if_pos e1]
      by_cases e4 : c = 4
      · subst e4
        refine go 4 (nI (fw r x)) hca (by unfold lst; rw [if_pos hca, hp]) (by omega) ?_
        simp (disch := omega) only [s_L_hour_205, s_L_hour_238, ↓pm_bd, pm_lit, pm_S, pm_gd, pm_C, h6, hck, hpw, pm_cl, eq_true e1, ↓reduceIte]
      · refine go c (nI (fw r x) * Z (30 + k) / nI 4) hca (by unfold lst; rw [hca, if_neg e4, hp]) hc ?_
        simp (disch := omega) only [s_L_hour_205, s_L_hour_238, ↓pm_bd, pm_lit, pk_mul, pm_S, pm_gd, pm_C, h6, hck, hpw, pm_cl, eq_true e1, e4, aT3 hA hkt, ↓reduceIte]
    · have hca : cau x1 c k = 0 := by unfold cau; rw [if_neg e1]
      have e4 : ¬ (0 : Nat) = 4 := by omega
      refine go 0 (nI (fw r x) * Z (30 + k) / nI 4) hca (by unfold lst; rw [hca, if_neg e4, hp]) (by omega) ?_
      simp (disch := omega) only [s_L_hour_205, s_L_hour_238, ↓pm_bd, pm_lit, pk_mul, pm_S, pm_gd, pm_C, h6, hck, hpw, pm_cl, e1, e4, aT3 hA hkt, ↓reduceIte]
