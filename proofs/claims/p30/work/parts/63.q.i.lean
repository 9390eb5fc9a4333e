/-! ### orders -/
def ord (Z : Nat → Int32) (t nL : Nat) : Nat → Int32 := upd (upd (upd Z (157 + nL) (nI t)) (167 + nL) (Z (10 + t) / nI 10)) 156 (nI (nL + 1))
theorem ord_o {Z : Nat → Int32} {t nL i : Nat} (hL : nL < 10) (hi : i < 156 ∨ 177 ≤ i) : ord Z t nL i = Z i := by
  unfold ord
  rw [pm_un _ _ (by omega), pm_un _ _ (by omega), pm_un _ _ (by omega)]
theorem fr_ord {nT nB nL nP nW t : Nat} {G : cr_G} {Z : Nat → Int32} (hn : okn nT nB nL nP nW) (hf : fr nT nB nL nP nW G Z) (e' : nL < 10) : fr nT nB (nL + 1) nP nW (cr_pt (cr_pt (cr_pt G 6 nL (nI t)) 7 nL (Z (10 + t) / nI 10)) 5 2 (nI (nL + 1))) (ord Z t nL) := by
  unfold ord
  refine fr_ext (fun j => j = 5 ∨ j = 6 ∨ j = 7) (by unfold okn at hn ⊢; omega) hf (fun j i hl hr => ?_) (fun j i hl hr => ⟨lvp_L hl (by omega) (by omega), ?_⟩) (fun k hk => ?_)
  · rcases hr with rfl | rfl | rfl
    · have hi : i = 2 := by simpa [lvp] using hl
      subst hi
      show _ = _
      rw [pm_pt, pm_u]
      exact (pm_u _ _ _).symm
    · have hi : i < nL + 1 := by simpa [lvp] using hl
      show _ = upd (upd (upd Z (157 + nL) (nI t)) (167 + nL) (Z (10 + t) / nI 10)) 156 (nI (nL + 1)) (157 + i)
      by_cases ei : i = nL
      · subst ei
        simp (disch := omega) only [pm_ptne, pm_pt, pm_u, pm_un]
      · simp (disch := omega) only [pm_ptne, pm_pt, pm_un]
        exact fr_lw hf (by omega)
    · have hi : i < nL + 1 := by simpa [lvp] using hl
      show _ = upd (upd (upd Z (157 + nL) (nI t)) (167 + nL) (Z (10 + t) / nI 10)) 156 (nI (nL + 1)) (167 + i)
      by_cases ei : i = nL
      · subst ei
        simp (disch := omega) only [pm_ptne, pm_pt, pm_u, pm_un]
      · simp (disch := omega) only [pm_ptne, pm_pt, pm_un]
        exact fr_lg hf (by omega)
  · rw [pm_ptne _ _ _ (by omega), pm_ptne _ _ _ (by omega), pm_ptne _ _ _ (by omega)]
  · have r5 := @rw_5 k
    have r6 := @rw_6 k
    have r7 := @rw_7 k
    have k5 : ¬ (156 ≤ k ∧ k < 157) := fun hh => hk (Or.inl (r5 hh))
    have k6 : ¬ (157 ≤ k ∧ k < 167) := fun hh => hk (Or.inr (Or.inl (r6 hh)))
    have k7 : ¬ (167 ≤ k ∧ k < 177) := fun hh => hk (Or.inr (Or.inr (r7 hh)))
    rw [pm_un _ _ (by omega), pm_un _ _ (by omega), pm_un _ _ (by omega)]
theorem J_ord {nT nB nL nP nW h g t : Nat} {Z : Nat → Int32} (hJ : J nT nB nL nP nW h g Z) (e' : nL < 10) : J nT nB (nL + 1) nP nW h g (ord Z t nL) := by
  have hn := hJ.1.1
  have hT := hn.1
  have o : ∀ i, (i < 156 ∨ 177 ≤ i) → ord Z t nL i = Z i := fun i hi => ord_o e' hi
  obtain ⟨⟨b0, b1, b2, b3, b4, b5, b6⟩, a2, a3, a4, a5, a6, a7, a8, a9, a10⟩ := hJ
  exact ⟨⟨by unfold okn at hn ⊢; omega, (o _ (by omega)).trans b1, (o _ (by omega)).trans b2, pm_u _ _ _, (o _ (by omega)).trans b4, (o _ (by omega)).trans b5, (o _ (by omega)).trans b6⟩, jS_c a2 (o _ (by omega)) (o _ (by omega)), jT_c a3 hT (fun k hk => o k (by omega)), jG_c a4 hT (fun k hk => o k (by omega)), jQ_c a5 hT (fun k hk => o k (by omega)), jP_c a6 hn.2.2.2.1 (fun k hk => o k (by omega)), jK_c a7 (fun k hk => o k (by omega)), jB_c a8 hn.2.1 (fun k hk => o k (by omega)), jW_c a9 hn.2.2.2.2 (fun k hk => o k (by omega)), jD_c a10 (fun k hk => o k (by omega))⟩
theorem aL_ord {nL t : Nat} {f Z : Nat → Int32} (h : aL nL f Z) (hL : nL < 10) : aL (nL + 1) (upd (upd f (2 * nL) (nI t)) (2 * nL + 1) (Z (10 + t) / nI 10)) (ord Z t nL) := by
  intro b hb
  unfold ord
  by_cases e : b = nL
  · subst e
    simp (disch := omega) only [pm_un, pm_u, and_self]
  · obtain ⟨k1, k2⟩ := h b (by omega)
    simp (disch := omega) only [pm_un]
    exact ⟨k1, k2⟩
theorem a_12 {S : cr_S} {Z : Nat → Int32} {nT nB nL nP nW h c a : Nat} (H : RV S Z nT nB nL nP nW h c) (h1 : 12 ≤ a) (h2 : a < 14) (x y : Int32) : DN (s_L_act (nI a) x y S) h c := by
  have H0 := H
  obtain ⟨⟨hf, hJ, hE, hG, hK, hT6, hh⟩, hP, -, hc, hc6⟩ := H
  have hn := hJ.1.1
  have h6 : S.1 9 3 6 = nI nT := (aC6 hG.2.2.2).trans hJ.1.2.1
  have h7 : S.1 9 3 7 = nI nL := (aC7 hG.2.2.2).trans hJ.1.2.2.2.1
  have hL := hn.2.2.1
  by_cases h0 : nT = 0
  · subst h0
    rw [act_T0 x y (by omega) (by omega) h6]
    exact DN_self H0
  obtain ⟨t, ht, et⟩ := l_at y (m := nT) (by omega) (by omega)
  rw [act_12 x y h1 h2 h6 hT6 h0 et]
  by_cases e : nL = 10
  · rw [h7, if_pos (show nI nL = (10 : Int32) from congrArg nI e)]
    exact DN_self H0
  rw [h7, if_neg (show ¬ nI nL = (10 : Int32) from ne_lit (j := 10) (by omega) (by omega) e)]
  have e' : nL < 10 := by omega
  obtain ⟨Sm, hSm⟩ : ∃ Sm, Sm = cr_us S 9 (cr_pt (cr_pt (cr_pt (S.1 9) 1 (2 * nL) (nI t)) 1 (2 * nL + 1) (Z (10 + t) / nI 10)) 3 7 (nI (nL + 1))) := ⟨_, rfl⟩
  have hlo : ∀ f, f < 9 → Sm.1 f = S.1 f := by rw [hSm]; exact us_lo (by omega)
  have hm9 : Sm.1 9 = cr_pt (cr_pt (cr_pt (S.1 9) 1 (2 * nL) (nI t)) 1 (2 * nL + 1) (Z (10 + t) / nI 10)) 3 7 (nI (nL + 1)) := by rw [hSm, cr_us_eq]
  have hm11 : Sm.1 11 = S.1 11 := by rw [hSm, cr_us_ne _ _ (by omega)]
  obtain ⟨S1, c1, e1, e2, e3, e4, e5, e6⟩ := a_sv H0 hlo
  have o : ∀ i, (i < 156 ∨ 177 ≤ i) → ord Z t nL i = Z i := fun i hi => ord_o e' hi
  refine ⟨_, ?_, _, _, _, _, _, _, _, _, e6 _ _ nT nB (nL + 1) nP nW h (fr_ord (t := t) hn hf e') (J_ord hJ e') (jE_c hE (o _ (by omega)) (o _ (by omega))) ?_ ?_ hT6 hh, by omega, e5⟩
  · have rq := a_req (S := Sm) (t := t) (by rw [hlo 0 (by omega)]; exact (fr_n hf).trans hJ.1.2.1) hn.1 ht
    have g5 : S.1 0 5 2 = nI nL := (fr_l hf).trans hJ.1.2.2.2.1
    have g1 : S.1 0 (t + 15) 1 = Z (10 + t) := fr_t1 hf ht
    have k1 : S.1 9 0 (7 * t + 1) = Z (10 + t) := aT1 hG.1 ht
    have hlo0 := hlo 0 (by omega)
    have g39 : S1.1 9 3 7 = nI (nL + 1) := by rw [e3 9 (by omega), hm9, pm_pt, pm_u]
    have hop : t_X8_orderBlade (nI t) Sm = some (nI (nL + 1), cr_us S1 0 (cr_pt (cr_pt (cr_pt (S.1 0) 6 nL (nI t)) 7 nL (Z (10 + t) / nI 10)) 5 2 (nI (nL + 1)))) := by
      simp (disch := omega) only [t_X8_orderBlade, rq, s_X3_isFull, s_X3_take, s_X5_bladeWeight, hlo0, ↓pm_bd, pm_lit, pm_cl, g5, pm_C, e', e1, pm_S, pm_gd, e2, g1, pm_ptne, pm_pt, cr_us_eq, ↓reduceIte, Bool.false_eq_true]
    simp (disch := omega) only [pm_lit, pk_mul, pm_S, pm_gd, ↓pm_bd, pm_cl, cr_sp, cr_us_eq, cr_us_us, h7, pm_ptne, k1]
    rw [← hSm]
    simp (disch := omega) only [hop, pm_cl, cr_us_ne _ _ (show (9 : Nat) ≠ 0 by omega), g39, ↓reduceIte]
  · rw [hm9]
    refine ⟨?_, ?_, ?_, ?_⟩
    · rw [pm_ptne _ _ _ (by omega), pm_ptne _ _ _ (by omega), pm_ptne _ _ _ (by omega)]; exact aT_c hG.1 hn.1 (fun k hk => o k (by omega))
    · rw [pm_ptne _ _ _ (by omega), pm_pt, pm_pt]; exact aL_ord hG.2.1 e'
    · rw [pm_ptne _ _ _ (by omega), pm_ptne _ _ _ (by omega), pm_ptne _ _ _ (by omega)]; exact aP_c hG.2.2.1 hn.2.2.2.1 (fun k hk => o k (by omega))
    · rw [pm_pt, pm_ptne _ _ _ (by omega), pm_ptne _ _ _ (by omega)]
      have k1 := aC_u (k0 := 7) (nI (nL + 1)) hG.2.2.2 (by omega)
      exact aC_c k1 (fun k hk => by
        show ord Z t nL k = upd Z 156 (nI (nL + 1)) k
        by_cases ek : k = 156
        · subst ek; rw [pm_u]; exact pm_u _ _ _
        · rw [pm_un _ _ ek]; exact o k (by omega))
  · rw [hm11]; exact aK_c hK hn.2.1 hn.2.2.2.2 (fun k hk => o k (by omega))
/-! ### out of the plan -/
theorem a_11 {S : cr_S} {Z : Nat → Int32} {nT nB nL nP nW h c : Nat} (H : RV S Z nT nB nL nP nW h c) (x y : Int32) : DN (s_L_act (nI 11) x y S) h c := by
  have H0 := H
  have hP8 := H.1.P8
  obtain ⟨⟨hf, hJ, hE, hG, hK, hT6, hh⟩, hP, -, hc, hc6⟩ := H
  have hn := hJ.1.1
  have hPm := hn.2.2.2.1
  have h145 := hJ.1.2.2.2.2.1
  have h6 : S.1 9 3 6 = nI nT := (aC6 hG.2.2.2).trans hJ.1.2.1
  by_cases h0 : nT = 0
  · subst h0
    rw [act_T0 x y (by omega) (by omega) h6]
    exact DN_self H0
  obtain ⟨t, ht, et⟩ := l_at y (m := nT) (by omega) (by omega)
  rw [act_11 x y (by omega) (by omega) h6 hT6 h0 et]
  rcases l_spot (K := S.1 11) hf hG.2.2.1 hP8 h145 hJ.2.2.2.2.2.1 (nI t) with ⟨s1, s2, s3⟩ | ⟨p, hp, hz, s1, s2⟩
  · rw [s2, pm_cl, if_neg (show ¬ (0 : Int32) ≤ mI by decide)]
    exact DN_self H0
  rw [s2, pm_cl, if_pos (show (0 : Int32) ≤ nI p from (nI_leI (a := 0) (by omega) (by omega)).mpr (by omega)), l_off (K := S.1 11) hP8 (by omega) hp ((hG.2.2.1 0 (by omega)).trans h145), pm_cl, pm_bd]
  obtain ⟨Sm, hSm⟩ : ∃ Sm, Sm = cr_us S 9 (cr_pa (S.1 9) 2 (upd (sl (S.1 9 2) 0 (p + 1) nP) 0 (nI (nP - 1)))) := ⟨_, rfl⟩
  rw [← hSm]
  have hlo : ∀ f, f < 9 → Sm.1 f = S.1 f := by rw [hSm]; exact us_lo (by omega)
  have hm9 : Sm.1 9 = cr_pa (S.1 9) 2 (upd (sl (S.1 9 2) 0 (p + 1) nP) 0 (nI (nP - 1))) := by rw [hSm, cr_us_eq]
  have hm11 : Sm.1 11 = S.1 11 := by rw [hSm, cr_us_ne _ _ (by omega)]
  obtain ⟨S1, c1, e1, e2, e3, e4, e5, e6⟩ := a_sv H0 hlo
  have o : ∀ i, (i < 145 ∨ 156 ≤ i) → tk Z p nP i = Z i := fun i hi => tk_o hPm hi
  have hrm := qc_removeAt hPm ((fr_p hf).trans h145) hp
  have hkm : ¬ nI p = mI := by rw [pm_ne (by omega)]; exact fun h => h
  refine ⟨_, ?_, _, _, _, _, _, _, _, _, e6 _ _ nT nB nL (nP - 1) nW h (fr_tk hn hf hp) (J_tk hJ hp) (jE_c hE (o _ (by omega)) (o _ (by omega))) ?_ ?_ hT6 hh, by omega, e5⟩
  · have hlo0 := hlo 0 (by omega)
    have rq := a_req (S := Sm) (t := t) (by rw [hlo0]; exact (fr_n hf).trans hJ.1.2.1) hn.1 ht
    have hop : t_X8_unplan (nI t) Sm = some (nI p, cr_us S1 0 (cr_pa (cr_pt (S.1 0) 8 1 (nI (nP - 1))) 9 (sl (S.1 0 9) 0 p (nP - 1)))) := by
      simp only [t_X8_unplan, rq, hlo0, ↓pm_bd, ↓pm_m1, pm_cl, s1, hkm, e1, e2, hrm, ↓reduceIte]
    simp only [hop, pm_cl, ↓reduceIte]
  · rw [hm9]
    refine ⟨?_, ?_, ?_, ?_⟩
    · rw [pm_pan _ _ (by omega)]; exact aT_c hG.1 hn.1 (fun k hk => o k (by omega))
    · rw [pm_pan _ _ (by omega)]; exact aL_c hG.2.1 hn.2.2.1 (fun k hk => o k (by omega))
    · rw [pm_pa]; exact aP_off hPm hp hG.2.2.1
    · rw [pm_pan _ _ (by omega)]; exact aC_c hG.2.2.2 (fun k hk => o k (by omega))
  · rw [hm11]; exact aK_c hK hn.2.1 hn.2.2.2.2 (fun k hk => o k (by omega))
