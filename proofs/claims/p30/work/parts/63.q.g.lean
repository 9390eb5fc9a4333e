/-! ### faults, orders, leaving the plan -/
theorem act_7 {a : Nat} (x y : Int32) {S : cr_S} {nT t : Nat} (h1 : 6 ≤ a) (h2 : a < 8) (h6 : S.1 9 3 6 = nI nT) (hT : nT ≤ 6) (h0 : ¬ nT = 0) (et : s_L_at y (nI nT) = some (nI t)) : s_L_act (nI a) x y S = (cr_gd (cr_in ((((7 : Int32) * (nI t)) + (3 : Int32))) 42) (cr_bd ((S.1 9 0) ((((7 : Int32) * (nI t)) + (3 : Int32))).toNatClampNeg) (fun v403_13 => (cr_cl (s_L_at x ((5 : Int32))) (fun r416_14 => (cr_gd (cr_in ((((7 : Int32) * (nI t)) + (3 : Int32))) 42) (cr_bd (cr_sp S 9 0 ((((7 : Int32) * (nI t)) + (3 : Int32))).toNatClampNeg r416_14) (fun S419_15 => (cr_gd (cr_in ((((7 : Int32) * (nI t)) + (4 : Int32))) 42) (cr_bd (cr_sp S419_15 9 0 ((((7 : Int32) * (nI t)) + (4 : Int32))).toNatClampNeg ((0 : Int32))) (fun S430_16 => (cr_gd (cr_in ((((7 : Int32) * (nI t)) + (3 : Int32))) 42) (cr_cl (t_X8_setFault (nI t) (((S430_16.1 9 0) ((((7 : Int32) * (nI t)) + (3 : Int32))).toNatClampNeg)) S430_16) (fun r444_17 => (if r444_17.1 = v403_13 then (some ((true, r444_17.2))) else (some ((false, r444_17.2)))))))))))))))))) := by
  unfold s_L_act
  rw [if_pos (show (2 : Int32) ≤ nI a from (nI_leI (a := 2) (by omega) (by omega)).mpr (by omega)), if_neg (show ¬ nI a = (2 : Int32) from ne_lit (j := 2) (by omega) (by omega) (by omega)), if_neg (show ¬ nI a = (3 : Int32) from ne_lit (j := 3) (by omega) (by omega) (by omega)), if_pos (show (6 : Int32) ≤ nI a from (nI_leI (a := 6) (by omega) (by omega)).mpr (by omega)), h6, if_neg (show ¬ nI nT = (0 : Int32) from ne_lit (j := 0) (by omega) (by omega) h0), et, pm_cl, if_neg (show ¬ (8 : Int32) ≤ nI a from fun h => by have := (nI_leI (a := 8) (by omega) (by omega)).mp h; omega)]
theorem act_T0 {a : Nat} (x y : Int32) {S : cr_S} (h1 : 6 ≤ a) (h2 : a < 18) (h6 : S.1 9 3 6 = nI 0) : s_L_act (nI a) x y S = some (true, S) := by
  unfold s_L_act
  rw [if_pos (show (2 : Int32) ≤ nI a from (nI_leI (a := 2) (by omega) (by omega)).mpr (by omega)), if_neg (show ¬ nI a = (2 : Int32) from ne_lit (j := 2) (by omega) (by omega) (by omega)), if_neg (show ¬ nI a = (3 : Int32) from ne_lit (j := 3) (by omega) (by omega) (by omega)), if_pos (show (6 : Int32) ≤ nI a from (nI_leI (a := 6) (by omega) (by omega)).mpr (by omega)), h6, if_pos (show nI 0 = (0 : Int32) from rfl)]
theorem a_req {S : cr_S} {nT t : Nat} (h0 : S.1 0 0 1 = nI nT) (hT : nT ≤ 10) (ht : t < nT) : t_X8_requireTurbine S (nI t) = some () := by
  have n1 : ¬ t < 0 := by omega
  have n2 : ¬ nT ≤ t := by omega
  simp (disch := omega) only [t_X8_requireTurbine, s_X2_hasTurbine, ↓pm_bd, pm_lit, h0, pm_C, n1, n2, pm_cl, ↓reduceIte]
theorem a_7 {S : cr_S} {Z : Nat → Int32} {nT nB nL nP nW h c a : Nat} (H : RV S Z nT nB nL nP nW h c) (h1 : 6 ≤ a) (h2 : a < 8) (x y : Int32) : DN (s_L_act (nI a) x y S) h c := by
  have H0 := H
  obtain ⟨⟨hf, hJ, hE, hG, hK, hT6, hh⟩, hP, ht, hc, hc6⟩ := H
  have hn := hJ.1.1
  have h6 : S.1 9 3 6 = nI nT := (aC6 hG.2.2.2).trans hJ.1.2.1
  by_cases h0 : nT = 0
  · subst h0
    rw [act_T0 x y h1 (by omega) h6]
    exact DN_self H0
  obtain ⟨t, ht, et⟩ := l_at y (m := nT) (by omega) (by omega)
  obtain ⟨n, hn5, en⟩ := l_at x (m := 5) (by omega) (by omega)
  rw [act_7 x y h1 h2 h6 hT6 h0 et]
  obtain ⟨Sm, hSm⟩ : ∃ Sm, Sm = cr_us S 9 (cr_pt (cr_pt (S.1 9) 0 (7 * t + 3) (nI n)) 0 (7 * t + 4) (nI 0)) := ⟨_, rfl⟩
  have hlo : ∀ f, f < 9 → Sm.1 f = S.1 f := by rw [hSm]; exact us_lo (by omega)
  have hm9 : Sm.1 9 = cr_pt (cr_pt (S.1 9) 0 (7 * t + 3) (nI n)) 0 (7 * t + 4) (nI 0) := by rw [hSm, cr_us_eq]
  have hm11 : Sm.1 11 = S.1 11 := by rw [hSm, cr_us_ne _ _ (by omega)]
  obtain ⟨S1, c1, e1, e2, e3, e4, e5, e6⟩ := a_sv H0 hlo
  have l3 : lvp nT nB nL nP nW (t + 15) 3 := by simp only [lvp]; omega
  have l4 : lvp nT nB nL nP nW (t + 15) 4 := by simp only [lvp]; omega
  have m3 : mp (t + 15) 3 = 30 + t := by rw [mp_t]
  have m4 : mp (t + 15) 4 = 40 + t := by rw [mp_t]
  have f1 := fr_pt (nI n) hn hf l3
  rw [m3] at f1
  have f2 := fr_pt (nI 0) hn f1 l4
  rw [m4] at f2
  have o : ∀ i, i ≠ 30 + t → i ≠ 40 + t → upd (upd Z (30 + t) (nI n)) (40 + t) (nI 0) i = Z i := fun i h1 h2 => by rw [pm_un _ _ h2, pm_un _ _ h1]
  refine ⟨_, ?_, _, _, _, _, _, _, _, _, e6 _ _ nT nB nL nP nW h f2 (J_fault hJ ht (by omega)) (jE_c hE (o _ (by omega) (by omega)) (o _ (by omega) (by omega))) ?_ ?_ hT6 hh, by omega, e5⟩
  · have g3 : S1.1 0 (t + 15) 3 = S.1 9 0 (7 * t + 3) := by rw [e2, aT3 hG.1 ht]; exact fr_t3 hf ht
    have w2 := c_wi (n := n) (lo := 0) (hi := 4) (by omega) (by omega) (by omega)
    have rq := a_req (S := Sm) (t := t) (by rw [hlo 0 (by omega)]; exact (fr_n hf).trans hJ.1.2.1) hn.1 ht
    have hop : t_X8_setFault (nI t) (nI n) Sm = some (S.1 9 0 (7 * t + 3), cr_us S1 0 (cr_pt (cr_pt (S.1 0) (t + 15) 3 (nI n)) (t + 15) 4 (nI 0))) := by
      simp (disch := omega) only [t_X8_setFault, rq, pm_lit, w2, pm_cl, e1, pm_S, pm_gd, ↓pm_bd, g3, cr_sp, cr_us_eq, cr_us_us, e2, ↓reduceIte]
    simp (disch := omega) only [pm_lit, pk_mul, pm_S, pm_gd, ↓pm_bd, en, pm_cl, cr_sp, cr_us_eq, cr_us_us]
    rw [← hSm]
    simp (disch := omega) only [hm9, pm_pt, pm_S, hop, pm_cl, ↓reduceIte]
  · rw [hm9]
    refine ⟨?_, ?_, ?_, ?_⟩
    · rw [pm_pt, pm_pt]
      have k1 := aT_u (nI n) hG.1 hn.1 ht (show 3 < 7 by omega)
      have k2 := aT_u (nI 0) k1 hn.1 ht (show 4 < 7 by omega)
      exact k2
    · rw [pm_ptne _ _ _ (by omega), pm_ptne _ _ _ (by omega)]; exact aL_c hG.2.1 hn.2.2.1 (fun k hk => o k (by omega) (by omega))
    · rw [pm_ptne _ _ _ (by omega), pm_ptne _ _ _ (by omega)]; exact aP_c hG.2.2.1 hn.2.2.2.1 (fun k hk => o k (by omega) (by omega))
    · rw [pm_ptne _ _ _ (by omega), pm_ptne _ _ _ (by omega)]; exact aC_c hG.2.2.2 (fun k hk => o k (by omega) (by omega))
  · rw [hm11]; exact aK_c hK hn.2.1 hn.2.2.2.2 (fun k hk => o k (by omega) (by omega))
