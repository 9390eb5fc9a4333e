/-! ### bogs: what the law does -/
theorem a_201 {S Sm : cr_S} {Z Z' : Nat → Int32} {G' : cr_G} {nT nB mB nL nP nW h c a nd : Nat} (H : RV S Z nT nB nL nP nW h c) (hlo : ∀ f, f < 9 → Sm.1 f = S.1 f) (hset : t_X8_setBog (nI a) (nI nd) Sm = t_X8_setBog_72 (nI a) (nI nd) Sm) (hput : s_X0_put (nI a) (nI nd) (S.1 0) = some G') (hf' : fr nT mB nL nP nW G' Z') (hJ' : J nT mB nL nP nW h h Z') (hZ : ∀ k, (k < 127 ∨ 140 ≤ k) → Z' k = Z k) (h9 : ∀ j, j ≠ 3 → Sm.1 9 j = S.1 9 j) (hC : Sm.1 9 3 = upd (S.1 9 3) 8 (nI mB)) (hB : aB mB (Sm.1 11 2) Z') (h110 : Sm.1 11 0 = S.1 11 0) (h111 : Sm.1 11 1 = S.1 11 1) : DN (s_L_bog_201 (nI a) (nI nd) Sm) h c := by
  have H0 := H
  obtain ⟨⟨hf, hJ, hE, hG, hK, hT6, hh⟩, hP, -, hc, hc6⟩ := H
  have hn := hJ.1.1
  obtain ⟨S1, c1, e1, e2, e3, e4, e5, e6⟩ := a_sv H0 hlo
  have h127 := hJ'.1.2.2.1
  have g22 : G' 2 2 = nI mB := (fr_b hf').trans h127
  refine ⟨cr_us S1 0 G', ?_, _, _, _, _, _, _, _, _, e6 _ _ nT mB nL nP nW h hf' hJ' (jE_c hE (hZ _ (by omega)) (hZ _ (by omega))) ?_ ?_ hT6 hh, by omega, e5⟩
  · have hop : t_X8_setBog_72 (nI a) (nI nd) Sm = some (nI mB, cr_us S1 0 G') := by
      simp only [t_X8_setBog_72, e1, pm_cl, e2, hput, ↓pm_bd, cr_us_eq, g22]
    have g98 : (cr_us S1 0 G').1 9 3 8 = nI mB := by rw [cr_us_ne _ _ (by omega), e3 9 (by omega), hC, pm_u]
    simp only [s_L_bog_201, hset, hop, pm_cl, g98, ↓reduceIte]
  · refine ⟨?_, ?_, ?_, ?_⟩
    · rw [h9 0 (by omega)]; exact aT_c hG.1 hn.1 (fun k hk => hZ k (by omega))
    · rw [h9 1 (by omega)]; exact aL_c hG.2.1 hn.2.2.1 (fun k hk => hZ k (by omega))
    · rw [h9 2 (by omega)]; exact aP_c hG.2.2.1 hn.2.2.2.1 (fun k hk => hZ k (by omega))
    · rw [hC]
      have k1 := aC_u (k0 := 8) (nI mB) hG.2.2.2 (by omega)
      exact aC_c k1 (fun k hk => by
        show Z' k = upd Z 127 (nI mB) k
        by_cases ek : k = 127
        · subst ek; rw [pm_u]; exact h127
        · rw [pm_un _ _ ek]; exact hZ k (by omega))
  · refine ⟨?_, ?_, hB⟩
    · rw [h110]; exact aW_c hK.1 hn.2.2.2.2 (fun k hk => hZ k (by omega))
    · rw [h111]; exact aS_c hK.2.1 (fun k hk => hZ k (by omega))
theorem a_bog {S : cr_S} {Z : Nat → Int32} {nT nB nL nP nW h c a nd : Nat} (H : RV S Z nT nB nL nP nW h c) (ha1 : 1 ≤ a) (ha2 : a ≤ 99) (hnd : nd ≤ 50) : DN (s_L_bog (nI a) (nI nd) S) h c := by
  have H0 := H
  obtain ⟨⟨hf, hJ, hE, hG, hK, hT6, hh⟩, hP, -, hc, hc6⟩ := H
  have hn := hJ.1.1
  have hB := hn.2.1
  have z127 := hJ.1.2.2.1
  have g22 : S.1 0 2 2 = nI nB := (fr_b hf).trans z127
  have h8 : S.1 9 3 8 = nI nB := (aC8 hG.2.2.2).trans z127
  obtain ⟨f, hf1, hf2⟩ := hJ.2.2.2.2.2.2.2.1
  have hr : ∀ i, i < nB → f i ≤ 99 ∧ S.1 11 2 (2 * i) = nI (f i) := fun i hi => ⟨(hf1 i hi).1, (hK.2.2 i hi).1.trans (hf1 i hi).2⟩
  obtain ⟨b, hb, hlo, hat⟩ : ∃ b, b ≤ nB ∧ (∀ i, i < b → f i < a) ∧ (b < nB → a ≤ f b) := by
    rcases least (P := fun i => a ≤ f i) (fun k => Decidable.em _) nB with hno | ⟨k, hk1, hk2, hk3⟩
    · exact ⟨nB, Nat.le_refl _, fun i hi => by have := hno i hi; omega, fun h9 => absurd h9 (Nat.lt_irrefl _)⟩
    · exact ⟨k, by omega, fun i hi => by have := hk3 i hi; omega, fun _ => hk2⟩
  have start : s_L_bog (nI a) (nI nd) S = s_L_bog_29 (nI a) (nI nd) (nI b) S := by
    simp only [s_L_bog, pm_lit]
    exact l_bog_3 S f (nI nd) hB ha2 h8 hr hb hlo hat b 0 1200 rfl (by omega) (by omega)
  rw [start]
  have w1 := c_wi (n := a) (lo := 1) (hi := 99) (by omega) (by omega) (by omega)
  have w2 := c_wi (n := nd) (lo := 0) (hi := 50) (by omega) (by omega) (by omega)
  have hfull : s_X0_isFull (S.1 0) = some (decide (¬ nB < 6)) := by
    by_cases e : nB < 6
    · simp (disch := omega) only [s_X0_isFull, pm_lit, g22, pm_C, e, ↓reduceIte, not_true_eq_false, decide_false]
    · simp (disch := omega) only [s_X0_isFull, pm_lit, g22, pm_C, e, ↓reduceIte, not_false_eq_true, decide_true]
  have hset : ∀ Sm : cr_S, Sm.1 0 = S.1 0 → (nd = 0 ∨ nB < 6 ∨ s_X0_indexAt (S.1 0) (nI a) = some (nI b)) → t_X8_setBog (nI a) (nI nd) Sm = t_X8_setBog_72 (nI a) (nI nd) Sm := fun Sm hSm hor => by
    by_cases e0 : nd = 0
    · subst e0
      simp only [t_X8_setBog, pm_lit, w1, w2, pm_cl, ↓reduceIte]
    · have nz : ¬ nI nd = nI 0 := by rw [nI_eq (by omega) (by omega)]; exact e0
      by_cases e6 : nB < 6
      · simp only [t_X8_setBog, pm_lit, w1, w2, pm_cl, nz, hSm, hfull, e6, not_true_eq_false, decide_false, ↓reduceIte, Bool.false_eq_true]
      · have hix : s_X0_indexAt (S.1 0) (nI a) = some (nI b) := by
          rcases hor with h1 | h1 | h1
          · omega
          · omega
          · exact h1
        have hbm : ¬ nI b = mI := by rw [pm_ne (by omega)]; exact fun h => h
        simp only [t_X8_setBog, ↓pm_m1, pm_lit, w1, w2, pm_cl, nz, hSm, hfull, e6, not_false_eq_true, decide_true, hix, hbm, ↓reduceIte]
  by_cases e : b < nB ∧ f b = a
  · -- there is one at this place
    obtain ⟨e1, e2⟩ := e
    have hfb := (hf1 b e1).2
    rw [e2] at hfb
    have hix : s_X0_indexAt (S.1 0) (nI a) = some (nI b) := by
      simp only [s_X0_indexAt, pm_lit]
      exact qc_indexAt_s _ nB b (nI a) hB g22 e1 ((fr_bp hf e1).trans hfb) b 0 1200 rfl (by omega) (Nat.zero_le _) (fun i _ hi => by
        rw [fr_bp hf (by omega), (hf1 i (by omega)).2, Ne, nI_eq (by have := (hf1 i (by omega)).1; omega) (by omega)]
        have := hlo i hi
        omega)
    have hbm : ¬ nI b = mI := by rw [pm_ne (by omega)]; exact fun h => h
    have nle : ¬ nB ≤ b := by omega
    have n10 : ¬ (1 : Nat) = 0 := by omega
    have k2 := (hr b e1).2
    rw [e2] at k2
    have to73 : s_L_bog_29 (nI a) (nI nd) (nI b) S = s_L_bog_73 (nI a) (nI nd) (nI b) (nI 1) S := by
      simp (disch := omega) only [s_L_bog_29, s_L_bog_54, pm_lit, pk_mul, pm_S, pm_gd, h8, k2, pm_C, nle, n10, ↓reduceIte]
    rw [to73]
    by_cases ez : nd = 0
    · subst ez
      obtain ⟨Sm, hSm⟩ : ∃ Sm, Sm = cr_us (cr_us S 9 (cr_pt (S.1 9) 3 8 (nI (nB - 1)))) 11 (cr_pa (S.1 11) 2 (s2 (S.1 11 2) (2 * b) (2 * (nB - 1)))) := ⟨_, rfl⟩
      have hm9 : Sm.1 9 = cr_pt (S.1 9) 3 8 (nI (nB - 1)) := by rw [hSm, cr_us_ne _ _ (by omega), cr_us_eq]
      have hm11 : Sm.1 11 = cr_pa (S.1 11) 2 (s2 (S.1 11 2) (2 * b) (2 * (nB - 1))) := by rw [hSm, cr_us_eq]
      have hl : ∀ f, f < 9 → Sm.1 f = S.1 f := fun f hf => by rw [hSm, cr_us_ne _ _ (by omega), cr_us_ne _ _ (by omega)]
      have to201 : s_L_bog_73 (nI a) (nI 0) (nI b) (nI 1) S = s_L_bog_201 (nI a) (nI 0) Sm := by
        have k97 := l_bog_97 (cr_us S 9 (cr_pt (S.1 9) 3 8 (nI (nB - 1)))) (nI a) (nI 0) (nI b) (nI 1) (nB - 1) (by omega) (by rw [cr_us_eq, pm_pt, pm_u]) (2 * (nB - 1) - 2 * b) (2 * b) 1200 (S.1 11 2) rfl (by omega) (by omega)
        rw [cr_us_ne _ _ (show (11 : Nat) ≠ 9 by omega), pm_self] at k97
        have hself : cr_us (cr_us S 9 (cr_pt (S.1 9) 3 8 (nI (nB - 1)))) 11 (S.1 11) = cr_us S 9 (cr_pt (S.1 9) 3 8 (nI (nB - 1))) := by
          have := cr_us_self (cr_us S 9 (cr_pt (S.1 9) 3 8 (nI (nB - 1)))) 11
          rwa [cr_us_ne _ _ (show (11 : Nat) ≠ 9 by omega)] at this
        rw [hself] at k97
        simp (disch := omega) only [s_L_bog_73, ↓pm_bd, pm_lit, n10, pm_C, h8, pk_sub, pk_mul, cr_sp, ↓reduceIte]
        rw [k97, ← hSm]
        simp (disch := omega) only [s_L_bog_125, s_L_bog_181, pm_lit, n10, pm_C, Nat.le_refl, ↓reduceIte]
      rw [to201]
      have hput : s_X0_put (nI a) (nI 0) (S.1 0) = some (cr_pa (cr_pa (cr_pt (S.1 0) 2 2 (nI (nB - 1))) 3 (sl (S.1 0 3) 0 b (nB - 1))) 4 (sl (S.1 0 4) 0 b (nB - 1))) := by
        simp only [s_X0_put, pm_cl, hix, pm_lit, qc_brem hB g22 e1, ↓reduceIte]
      refine a_201 H0 hl (hset Sm (hl 0 (by omega)) (Or.inl rfl)) hput (fr_bgr hn hf e1) (J_bgr hJ e1) (bgr_o hB) (fun j hj => by rw [hm9, pm_ptne _ _ _ hj]) (by rw [hm9, pm_pt]) ?_ (by rw [hm11, pm_pan _ _ (by omega)]) (by rw [hm11, pm_pan _ _ (by omega)])
      rw [hm11, pm_pa]
      exact aB_r hK.2.2 hB e1
    · -- its need changes
      have nz : ¬ nI nd = nI 0 := by rw [nI_eq (by omega) (by omega)]; exact ez
      have nz2 : ¬ nd ≤ 0 := by omega
      have hZ : ∀ k, (k < 127 ∨ 140 ≤ k) → upd Z (134 + b) (nI nd) k = Z k := fun k hk => pm_un _ _ (by omega)
      have l4 : lvp nT nB nL nP nW 4 b := by simp [lvp, e1]
      have f2 : fr nT nB nL nP nW (cr_pt (S.1 0) 4 b (nI nd)) (upd Z (134 + b) (nI nd)) := fr_pt (nI nd) hn hf l4
      have J2 := J_bogs (mB := nB) hJ hB hZ ((pm_un _ _ (by omega)).trans z127) ⟨f, fun i hi => by rw [pm_un _ _ (by omega)]; exact hf1 i hi, hf2⟩
      obtain ⟨Sm, hSm⟩ : ∃ Sm, Sm = cr_us S 11 (cr_pt (cr_pt (S.1 11) 2 (2 * b) (nI a)) 2 (2 * b + 1) (nI nd)) := ⟨_, rfl⟩
      have hm9 : Sm.1 9 = S.1 9 := by rw [hSm, cr_us_ne _ _ (by omega)]
      have hm11 : Sm.1 11 = cr_pt (cr_pt (S.1 11) 2 (2 * b) (nI a)) 2 (2 * b + 1) (nI nd) := by rw [hSm, cr_us_eq]
      have hl : ∀ f, f < 9 → Sm.1 f = S.1 f := by rw [hSm]; exact us_lo (by omega)
      have to201 : s_L_bog_73 (nI a) (nI nd) (nI b) (nI 1) S = s_L_bog_201 (nI a) (nI nd) Sm := by
        simp (disch := omega) only [s_L_bog_73, s_L_bog_125, s_L_bog_181, ↓pm_bd, pm_lit, n10, nz, nz2, ez, pm_C, pk_mul, pm_S, pm_gd, cr_sp, cr_us_eq, cr_us_us, ↓reduceIte]
        rw [← hSm]
      rw [to201]
      have hput : s_X0_put (nI a) (nI nd) (S.1 0) = some (cr_pt (S.1 0) 4 b (nI nd)) := by
        simp (disch := omega) only [s_X0_put, pm_cl, hix, ↓pm_m1, pm_lit, nz, hbm, pm_in, nI_clamp, pm_gd, ↓pm_bd, ↓reduceIte]
      refine a_201 H0 hl (hset Sm (hl 0 (by omega)) (Or.inr (Or.inr hix))) hput f2 J2 hZ (fun j hj => by rw [hm9]) (by rw [hm9, upd_same h8]) ?_ (by rw [hm11, pm_ptne _ _ _ (by omega), pm_ptne _ _ _ (by omega)]) (by rw [hm11, pm_ptne _ _ _ (by omega), pm_ptne _ _ _ (by omega)])
      rw [hm11, pm_pt, pm_pt]
      intro i hi
      by_cases ei : i = b
      · subst ei
        rw [pm_un _ _ (by omega), pm_u, pm_u, pm_un _ _ (by omega), pm_u]
        exact ⟨hfb.symm, rfl⟩
      · rw [pm_un _ _ (by omega), pm_un _ _ (by omega), pm_un _ _ (by omega), pm_un _ _ (by omega), pm_un _ _ (by omega), pm_un _ _ (by omega)]
        exact hK.2.2 i hi
  · -- none at this place
    have hne : ∀ i, i < nB → f i ≠ a := fun i hi he => by
      by_cases eb : i < b
      · have := hlo i eb; omega
      · have h9 : b < nB := by omega
        have h10 := hat h9
        by_cases ei : i = b
        · subst ei; exact e ⟨h9, he⟩
        · have := hf2 b i (by omega) hi
          omega
    have hix : s_X0_indexAt (S.1 0) (nI a) = some mI := by
      simp only [s_X0_indexAt, pm_lit]
      exact qc_indexAt_n _ nB (nI a) hB g22 nB 0 1200 rfl (by omega) (Nat.zero_le _) (fun i _ hi => by
        rw [fr_bp hf hi, (hf1 i hi).2, Ne, nI_eq (by have := (hf1 i hi).1; omega) (by omega)]
        exact hne i hi)
    have to54 : s_L_bog_29 (nI a) (nI nd) (nI b) S = s_L_bog_54 (nI a) (nI nd) (nI b) (nI 0) S := by
      by_cases eb : nB ≤ b
      · simp (disch := omega) only [s_L_bog_29, pm_lit, h8, pm_C, eb, ↓reduceIte]
      · have h9 := hne b (by omega)
        obtain ⟨h10, h11⟩ := hr b (by omega)
        simp (disch := omega) only [s_L_bog_29, pm_gd, pm_lit, pk_mul, pm_S, h8, pm_C, eb, h11, h9, ↓reduceIte]
    rw [to54]
    by_cases e6b : nB = 6
    · have hr' : s_L_bog_54 (nI a) (nI nd) (nI b) (nI 0) S = some (true, S) := by
        simp (disch := omega) only [s_L_bog_54, pm_lit, h8, pm_C, e6b, ↓reduceIte]
      rw [hr']
      exact DN_self H0
    have to125 : s_L_bog_54 (nI a) (nI nd) (nI b) (nI 0) S = s_L_bog_125 (nI a) (nI nd) (nI b) (nI 0) S := by
      simp (disch := omega) only [s_L_bog_54, s_L_bog_73, pm_lit, h8, pm_C, e6b, ↓reduceIte]
    rw [to125]
    have n6 : nB < 6 := by omega
    by_cases ez : nd = 0
    · -- nothing to do
      subst ez
      have to201 : s_L_bog_125 (nI a) (nI 0) (nI b) (nI 0) S = s_L_bog_201 (nI a) (nI 0) S := by
        simp (disch := omega) only [s_L_bog_125, s_L_bog_181, pm_lit, pm_C, Nat.le_refl, ↓reduceIte]
      rw [to201]
      have hmr : s_X0_removeAt mI (S.1 0) = some (S.1 0) := by
        have hm : mI < 0 := by decide
        simp only [s_X0_removeAt, hm, ↓reduceIte]
      have hput : s_X0_put (nI a) (nI 0) (S.1 0) = some (S.1 0) := by
        simp only [s_X0_put, pm_cl, hix, pm_lit, hmr, ↓reduceIte]
      exact a_201 H0 (fun _ _ => rfl) (hset S rfl (Or.inl rfl)) hput hf hJ (fun _ _ => rfl) (fun _ _ => rfl) (by rw [upd_same h8]) hK.2.2 rfl rfl
    · have nz : ¬ nI nd = nI 0 := by rw [nI_eq (by omega) (by omega)]; exact ez
      have nz2 : ¬ nd ≤ 0 := by omega
      have hhi : ∀ i, b ≤ i → i < nB → a < f i := fun i h9 h10 => by
        have h11 := hat (by omega)
        have h12 := hne b (by omega)
        by_cases ei : i = b
        · subst ei; omega
        · have := hf2 b i (by omega) h10
          omega
      have hins := qc_bins_19 (S.1 0) nB b a (nI nd) f n6 ha2 (fun i hi => (hf1 i hi).1) g22 hb (fun i hi => by have := hlo i hi; omega) hhi (nB - b) nB 1200 (S.1 0 3) (S.1 0 4) rfl (by omega) hb (Nat.le_refl _) (fun i hi => (fr_bp hf hi).trans (hf1 i hi).2)
      rw [pm_self, pm_self] at hins
      obtain ⟨Sm, hSm⟩ : ∃ Sm, Sm = cr_us (cr_us S 9 (cr_pt (S.1 9) 3 8 (nI (nB + 1)))) 11 (cr_pt (cr_pt (cr_pa (S.1 11) 2 (r2 (S.1 11 2) (2 * b + 1) (2 * nB + 1))) 2 (2 * b) (nI a)) 2 (2 * b + 1) (nI nd)) := ⟨_, rfl⟩
      have hm9 : Sm.1 9 = cr_pt (S.1 9) 3 8 (nI (nB + 1)) := by rw [hSm, cr_us_ne _ _ (by omega), cr_us_eq]
      have hm11 : Sm.1 11 = cr_pt (cr_pt (cr_pa (S.1 11) 2 (r2 (S.1 11 2) (2 * b + 1) (2 * nB + 1))) 2 (2 * b) (nI a)) 2 (2 * b + 1) (nI nd) := by rw [hSm, cr_us_eq]
      have hl : ∀ f, f < 9 → Sm.1 f = S.1 f := fun f hf => by rw [hSm, cr_us_ne _ _ (by omega), cr_us_ne _ _ (by omega)]
      have hcomm : ∀ (X Y : cr_G), cr_us (cr_us S 11 X) 9 Y = cr_us (cr_us S 9 Y) 11 X := fun X Y => by
        refine Prod.ext ?_ rfl
        funext g
        by_cases e1 : g = 9
        · subst e1
          rw [cr_us_eq, cr_us_ne _ _ (by omega), cr_us_eq]
        · by_cases e2 : g = 11
          · subst e2
            rw [cr_us_ne _ _ (by omega), cr_us_eq, cr_us_eq]
          · rw [cr_us_ne _ _ e1, cr_us_ne _ _ e2, cr_us_ne _ _ e2, cr_us_ne _ _ e1]
      have to201 : s_L_bog_125 (nI a) (nI nd) (nI b) (nI 0) S = s_L_bog_201 (nI a) (nI nd) Sm := by
        have k145 := l_bog_145 S (nI a) (nI nd) b nB (by omega) hb h8 (2 * nB + 1 - (2 * b + 1)) (2 * nB + 1) 1200 (S.1 11 2) rfl (by omega) (by omega) (by omega)
        rw [pm_self, cr_us_self] at k145
        simp (disch := omega) only [s_L_bog_125, ↓pm_bd, pm_lit, pm_C, nz2, h8, pk_mul, pm_add, ↓reduceIte]
        rw [k145]
        simp (disch := omega) only [s_L_bog_181, ↓pm_bd, pm_lit, pm_C, nz2, pk_mul, pm_S, pm_gd, cr_sp, cr_us_ne _ _ (show (9 : Nat) ≠ 11 by omega), hcomm, cr_us_eq, cr_us_us, ↓reduceIte]
        rw [hSm]
        simp only [pm_S]
      rw [to201]
      have hput : s_X0_put (nI a) (nI nd) (S.1 0) = some (cr_pt (cr_pa (cr_pa (S.1 0) 3 (upd (sr (S.1 0 3) 0 b nB) b (nI a))) 4 (upd (sr (S.1 0 4) 0 b nB) b (nI nd))) 2 2 (nI (nB + 1))) := by
        simp only [s_X0_put, s_X0_insert, pm_cl, hix, ↓pm_m1, pm_lit, nz, hfull, n6, not_true_eq_false, decide_false, ↓pm_bd, g22, hins, ↓reduceIte, Bool.false_eq_true]
      refine a_201 H0 hl (hset Sm (hl 0 (by omega)) (Or.inr (Or.inl n6))) hput (fr_bgi hn hf n6 hb) (J_bgi hJ n6 hb ha2 hf1 hf2 hlo hhi) (bgi_o n6 hb) (fun j hj => by rw [hm9, pm_ptne _ _ _ hj]) (by rw [hm9, pm_pt]) ?_ (by rw [hm11, pm_ptne _ _ _ (by omega), pm_ptne _ _ _ (by omega), pm_pan _ _ (by omega)]) (by rw [hm11, pm_ptne _ _ _ (by omega), pm_ptne _ _ _ (by omega), pm_pan _ _ (by omega)])
      rw [hm11, pm_pt, pm_pt, pm_pa]
      exact aB_i hK.2.2 n6 hb
theorem a_2 {S : cr_S} {Z : Nat → Int32} {nT nB nL nP nW h c : Nat} (H : RV S Z nT nB nL nP nW h c) (x y : Int32) : DN (s_L_act (nI 2) x y S) h c := by
  obtain ⟨j, hj, ej⟩ := l_at x (m := 60) (by omega) (by omega)
  obtain ⟨k, hk, ek⟩ := l_at y (m := 3) (by omega) (by omega)
  obtain ⟨r, hr, er⟩ := l_at (y >>> (nI 2 &&& 31)) (m := 20) (by omega) (by omega)
  have h50 : ∀ nd, nd ≤ 50 → DN (s_L_act_50 (nI nd) (nI (1 + j)) S) h c := fun nd hnd => by
    obtain ⟨S', e1, e2⟩ := a_bog (a := 1 + j) (nd := nd) H (by omega) (by omega) hnd
    exact ⟨S', by simp only [s_L_act_50, e1, pm_cl], e2⟩
  rw [act_2]
  by_cases e : k = 0
  · subst e
    simp (disch := omega) only [pm_lit, ej, ek, pm_cl, pm_add, ↓reduceIte]
    exact h50 0 (by omega)
  · have nk : ¬ nI k = nI 0 := ne_lit (by omega) (by omega) e
    simp (disch := omega) only [pm_lit, ej, ek, er, nk, pm_cl, pm_add, ↓reduceIte]
    exact h50 (1 + r) (by omega)
