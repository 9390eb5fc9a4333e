/-! ### a new turbine -/
theorem l_227 {nT : Nat} (S : cr_S) (Z : Nat → Int32) (y x : Int32) (hT6 : nT ≤ 6) (hA : aT nT (S.1 9 0) Z) (h6 : S.1 9 3 6 = nI nT) : ∀ d k n, nT - k = d → d < n → k ≤ nT → s_L_act_227 n y x (nI k) S = some (true, S) ∧ k < nT ∨ (∀ i, k ≤ i → i < nT → Z i ≠ x) ∧ ∃ m, s_L_act_227 n y x (nI k) S = s_L_act_227 (m + 1) y x (nI nT) S := by
  intro d
  induction d with
  | zero =>
    intro k n hd hn hk
    obtain ⟨n, rfl⟩ : ∃ m, n = m + 1 := ⟨n - 1, by omega⟩
    obtain rfl : k = nT := by omega
    exact Or.inr ⟨fun i h1 h2 => by omega, n, rfl⟩
  | succ d ih =>
    intro k n hd hn hk
    obtain ⟨n, rfl⟩ : ∃ m, n = m + 1 := ⟨n - 1, by omega⟩
    have hck : ¬ nT ≤ k := by omega
    have hv : S.1 9 0 (7 * k) = Z k := aT0 hA (by omega)
    by_cases e : Z k = x
    · refine Or.inl ⟨?_, by omega⟩
      simp (disch := omega) only [s_L_act_227, ↓pm_bd, pm_lit, pk_mul, pm_S, pm_gd, pm_C, h6, hck, hv, e, ↓reduceIte]
    · have step : s_L_act_227 (n + 1) y x (nI k) S = s_L_act_227 n y x (nI (k + 1)) S := by
        rw [s_L_act_227]
        rw [h6, if_neg (show ¬ nI nT ≤ nI k from fun h => hck ((nI_leI (by omega) (by omega)).mp h))]
        simp (disch := omega) only [↓pm_bd, pm_lit, pk_mul, pm_S, pm_gd, hv, e, ↓reduceIte]
      rcases ih (k + 1) n (by omega) (by omega) (by omega) with ⟨h1, h2⟩ | ⟨h1, m, h2⟩
      · exact Or.inl ⟨step.trans h1, by omega⟩
      · refine Or.inr ⟨fun i hi1 hi2 => ?_, m, step.trans h2⟩
        by_cases ei : i = k
        · subst ei; exact e
        · exact h1 i (by omega) hi2
theorem aT_ad {nT : Nat} {f Z : Nat → Int32} {a b r : Int32} (h : aT nT f Z) (hT : nT < 6) : aT (nT + 1) (upd (upd (upd f (7 * nT) a) (7 * nT + 1) b) (7 * nT + 2) r) (adT Z nT a b r) := by
  intro t i ht hi
  by_cases e : t = nT ∧ i < 3
  · obtain ⟨rfl, h3⟩ := e
    unfold adT
    have h9 : i = 0 ∨ i = 1 ∨ i = 2 := by omega
    rcases h9 with rfl | rfl | rfl
    · rw [show 7 * t + 0 = 7 * t by omega, show 10 * 0 + t = t by omega]
      simp (disch := omega) only [pm_un, pm_u]
    · rw [show 10 * 1 + t = 10 + t by omega]
      simp (disch := omega) only [pm_un, pm_u]
    · rw [show 10 * 2 + t = 20 + t by omega]
      simp (disch := omega) only [pm_un, pm_u]
  · rw [adT_o (by omega), pm_un _ _ (by omega), pm_un _ _ (by omega), pm_un _ _ (by omega)]
    exact h t i (by omega) hi
theorem a_4 {S : cr_S} {Z : Nat → Int32} {nT nB nL nP nW h c a0 : Nat} (H : RV S Z nT nB nL nP nW h c) (h1 : 4 ≤ a0) (h2 : a0 < 6) (x y : Int32) (q : Nat) (hq : q ≤ c ∨ (q = 1 ∧ nT = 0)) : DN (s_L_act (nI a0) x y S) h q := by
  have H0 := H
  obtain ⟨⟨hf, hJ, hE, hG, hK, hT6, hh⟩, hP, -, hc, hc6⟩ := H
  have hn := hJ.1.1
  have h6 : S.1 9 3 6 = nI nT := (aC6 hG.2.2.2).trans hJ.1.2.1
  have g01 : S.1 0 0 1 = nI nT := (fr_n hf).trans hJ.1.2.1
  obtain ⟨j, hj, ej⟩ := l_at x (m := 60) (by omega) (by omega)
  have start : s_L_act (nI a0) x y S = s_L_act_227 1200 y (nI (1 + j)) (nI 0) S := by
    rw [act_4 x y S h1 h2]
    simp only [pm_lit, ej, pm_cl, ↓pm_bd, pm_add]
  rw [start]
  rcases l_227 S Z y (nI (1 + j)) hT6 hG.1 h6 nT 0 1200 rfl (by omega) (by omega) with ⟨k1, k2⟩ | ⟨k1, m, k2⟩
  · rw [k1]
    exact ⟨S, rfl, Z, nT, nB, nL, nP, nW, h, c, H0, by omega, by omega⟩
  rw [k2]
  by_cases e6 : nT = 6
  · have hr : s_L_act_227 (m + 1) y (nI (1 + j)) (nI nT) S = some (true, S) := by
      rw [s_L_act_227, h6, if_pos (Int32.le_refl _), if_pos (show nI nT = (6 : Int32) from congrArg nI e6)]
    rw [hr]
    exact ⟨S, rfl, Z, nT, nB, nL, nP, nW, h, c, H0, by omega, by omega⟩
  obtain ⟨b, hb, eb⟩ := l_at y (m := 111) (by omega) (by omega)
  obtain ⟨r, hr, er⟩ := l_at (y >>> (nI 7 &&& 31)) (m := 50) (by omega) (by omega)
  obtain ⟨Sm, hSm⟩ : ∃ Sm, Sm = cr_us S 9 (cr_pt (cr_pt (cr_pt (cr_pt (S.1 9) 0 (7 * nT) (nI (1 + j))) 0 (7 * nT + 1) (nI (50 + b))) 0 (7 * nT + 2) (nI (1 + r))) 3 6 (nI (nT + 1))) := ⟨_, rfl⟩
  have hlo : ∀ f, f < 9 → Sm.1 f = S.1 f := by rw [hSm]; exact us_lo (by omega)
  have hm9 : Sm.1 9 = cr_pt (cr_pt (cr_pt (cr_pt (S.1 9) 0 (7 * nT) (nI (1 + j))) 0 (7 * nT + 1) (nI (50 + b))) 0 (7 * nT + 2) (nI (1 + r))) 3 6 (nI (nT + 1)) := by rw [hSm, cr_us_eq]
  have hm11 : Sm.1 11 = S.1 11 := by rw [hSm, cr_us_ne _ _ (by omega)]
  obtain ⟨S1, c1, e1, e2, e3, e4, e5, e6'⟩ := a_sv H0 hlo
  have o : ∀ i, (i ≠ nT ∧ i ≠ 10 + nT ∧ i ≠ 20 + nT ∧ i ≠ 70) → adT Z nT (nI (1 + j)) (nI (50 + b)) (nI (1 + r)) i = Z i := fun i hi => adT_o hi
  refine ⟨cr_us S1 0 (adG (S.1 0) nT (nI (1 + j)) (nI (50 + b)) (nI (1 + r))), ?_, _, _, _, _, _, _, _, _, e6' _ _ (nT + 1) nB nL nP nW h (fr_adT (a := nI (1 + j)) (b := nI (50 + b)) (r := nI (1 + r)) hn (by omega) hf hJ.2.2.2.2.2.2.2.2.2) (J_adT (b := 50 + b) hJ (by omega) (by omega) (by omega)) (jE_c hE (o _ (by omega)) (o _ (by omega))) ?_ ?_ (by omega) hh, by omega, by omega⟩
  · have hlo0 := hlo 0 (by omega)
    have w1 := c_wi (n := 1 + j) (lo := 1) (hi := 99) (by omega) (by omega) (by omega)
    have w2 := c_wi (n := 50 + b) (lo := 50) (hi := 160) (by omega) (by omega) (by omega)
    have w3 := c_wi (n := 1 + r) (lo := 1) (hi := 50) (by omega) (by omega) (by omega)
    have e' : ¬ 10 ≤ nT := by omega
    have nt : nT < 10 := by omega
    have hat : s_X2_hasTurbineAt (S.1 0) (nI (1 + j)) = some false := by
      simp only [s_X2_hasTurbineAt, pm_lit]
      exact qc_hasAt_n (S.1 0) nT (nI (1 + j)) hn.1 g01 nT 0 1200 rfl (by omega) (by omega) (fun i _ hi => by rw [fr_t0 hf hi]; exact k1 i (by omega) hi)
    have hop : t_X8_addTurbine (nI (1 + j)) (nI (50 + b)) (nI (1 + r)) Sm = some (nI nT, cr_us S1 0 (adG (S.1 0) nT (nI (1 + j)) (nI (50 + b)) (nI (1 + r)))) := by
      simp (disch := omega) only [t_X8_addTurbine, s_X2_buildTurbine, s_X5_begin, pm_lit, w1, w2, w3, pm_cl, hlo0, g01, pm_C, e', hat, e1, e2, nt, ↓pm_bd, pm_S, pm_gd, pm_pt, pm_ptne, Nat.add_sub_cancel, ↓reduceIte, Bool.false_eq_true]
      rfl
    have g36 : S1.1 9 3 6 = nI (nT + 1) := by rw [e3 9 (by omega), hm9, pm_pt, pm_u]
    have n6 : ¬ nT = 6 := e6
    have hi2 : (cr_us S1 0 (adG (S.1 0) nT (nI (1 + j)) (nI (50 + b)) (nI (1 + r)))).1 9 3 6 - (1 : Int32) = nI nT := by
      rw [cr_us_ne _ _ (by omega), g36, show (1 : Int32) = nI 1 from rfl, pk_sub (by omega), Nat.add_sub_cancel]
    have r1 : cr_pt (cr_pt (cr_pt (S.1 9) 0 (7 * nT) (nI (1 + j))) 0 (7 * nT + 1) (nI (50 + b))) 0 (7 * nT + 2) (nI (1 + r)) 0 (7 * nT + 1) = nI (50 + b) := by
      rw [pm_pt, pm_un _ _ (by omega), pm_pt, pm_u]
    have r2 : cr_pt (cr_pt (cr_pt (S.1 9) 0 (7 * nT) (nI (1 + j))) 0 (7 * nT + 1) (nI (50 + b))) 0 (7 * nT + 2) (nI (1 + r)) 0 (7 * nT + 2) = nI (1 + r) := by
      rw [pm_pt, pm_u]
    rw [s_L_act_227, h6, if_pos (Int32.le_refl _), if_neg (show ¬ nI nT = (6 : Int32) from ne_lit (j := 6) (by omega) (by omega) e6)]
    have l111 : (111 : Int32) = nI 111 := rfl
    simp (disch := omega) only [pm_lit, l111, pk_mul, pm_S, pm_gd, ↓pm_bd, pm_cl, eb, er, cr_sp, cr_us_eq, cr_us_us, pm_ptne, h6]
    rw [← hSm]
    rw [r1, r2, hop, pm_cl]
    exact if_pos hi2.symm
  · rw [hm9]
    refine ⟨?_, ?_, ?_, ?_⟩
    · rw [pm_ptne _ _ _ (by omega), pm_pt, pm_pt, pm_pt]; exact aT_ad hG.1 (by omega)
    · rw [pm_ptne _ _ _ (by omega), pm_ptne _ _ _ (by omega), pm_ptne _ _ _ (by omega), pm_ptne _ _ _ (by omega)]; exact aL_c hG.2.1 hn.2.2.1 (fun k hk => o k (by omega))
    · rw [pm_ptne _ _ _ (by omega), pm_ptne _ _ _ (by omega), pm_ptne _ _ _ (by omega), pm_ptne _ _ _ (by omega)]; exact aP_c hG.2.2.1 hn.2.2.2.1 (fun k hk => o k (by omega))
    · rw [pm_pt, pm_ptne _ _ _ (by omega), pm_ptne _ _ _ (by omega), pm_ptne _ _ _ (by omega)]
      have k1 := aC_u (k0 := 6) (nI (nT + 1)) hG.2.2.2 (by omega)
      exact aC_c k1 (fun k hk => by
        show adT Z nT _ _ _ k = upd Z 70 (nI (nT + 1)) k
        by_cases ek : k = 70
        · subst ek; rw [pm_u]; exact pm_u _ _ _
        · rw [pm_un _ _ ek]; exact o k (by omega))
  · rw [hm11]; exact aK_c hK hn.2.1 hn.2.2.2.2 (fun k hk => o k (by omega))
