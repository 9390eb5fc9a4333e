theorem q_setBog {S : cr_S} {P : cr_G} (hR : R S P) (p q : Int32) : AG S (s_X8_setBog S p q) (s_X9_setBog p q P) cAS := by
  obtain ⟨P0, hP0, h1, hpa, hR0, h7⟩ := q_start hR
  obtain ⟨⟨nT, nB, nL, nP, nW, h, hf, hJ, hh⟩, -⟩ := hR
  rw [← h1] at hf hJ hpa
  have hn := hJ.1.1
  have hB := hn.2.1
  have z127 := hJ.1.2.2.1
  have g22 : S.1 0 2 2 = nI nB := (fr_b hf).trans z127
  obtain ⟨f, hf1, hf2⟩ := hJ.2.2.2.2.2.2.2.1
  rcases q_wi p (lo := 1) (hi := 99) (by omega) (by omega) with ⟨a, ha1, ha2, rfl, c1, m1⟩ | ⟨c1, m1⟩
  · rcases q_wi q (lo := 0) (hi := 50) (by omega) (by omega) with ⟨nd, -, hnd, rfl, c2, m2⟩ | ⟨c2, m2⟩
    · -- the first place that isn't below a
      obtain ⟨b, hb, hlo, hat⟩ : ∃ b, b ≤ nB ∧ (∀ i, i < b → f i < a) ∧ (b < nB → a ≤ f b) := by
        rcases least (P := fun i => a ≤ f i) (fun k => Decidable.em _) nB with hno | ⟨k, hk1, hk2, hk3⟩
        · exact ⟨nB, Nat.le_refl _, fun i hi => by have := hno i hi; omega, fun h9 => absurd h9 (Nat.lt_irrefl _)⟩
        · exact ⟨k, by omega, fun i hi => by have := hk3 i hi; omega, fun _ => hk2⟩
      have hm0 : s_X9_setBog (nI a) (nI nd) P = s_X9_setBog_64 (nI a) (nI nd) (nI b) P0 := by
        simp only [s_X9_setBog, ↓pm_bd, pm_lit, ← hP0]
        simp only [m1, m2, pm_cl, ↓reduceIte]
        exact qm_scan P0 nB b a (nI nd) f hB ha2 hb z127 hf1 hlo hat b 0 1200 rfl (by omega) (Nat.zero_le _)
      have hc0 : s_X8_setBog S (nI a) (nI nd) = (if nI nd = nI 0 then s_X8_setBog_72 S (nI a) (nI nd) else (cr_cl (s_X0_isFull (S.1 0)) (fun r41_3 => (if r41_3 = true then (cr_cl (s_X0_indexAt (S.1 0) (nI a)) (fun r55_4 => (if r55_4 = mI then (some (.inl "java/lang/IllegalStateException")) else (s_X8_setBog_72 S (nI a) (nI nd))))) else (s_X8_setBog_72 S (nI a) (nI nd)))))) := by
        simp only [s_X8_setBog, ↓pm_m1, pm_lit, c1, c2, pm_cl, ↓reduceIte]
        rfl
      have hfull : s_X0_isFull (S.1 0) = some (decide (¬ nB < 6)) := by
        by_cases e : nB < 6
        · simp (disch := omega) only [s_X0_isFull, pm_lit, g22, pm_C, e, ↓reduceIte, not_true_eq_false, decide_false]
        · simp (disch := omega) only [s_X0_isFull, pm_lit, g22, pm_C, e, ↓reduceIte, not_false_eq_true, decide_true]
      by_cases e : b < nB ∧ f b = a
      · -- there is one at this place
        obtain ⟨e1, e2⟩ := e
        have hfb := (hf1 b e1).2
        rw [e2] at hfb
        have hix : ∀ G : cr_G, G = S.1 0 → s_X0_indexAt G (nI a) = some (nI b) := by
          rintro G rfl
          simp only [s_X0_indexAt, pm_lit]
          exact qc_indexAt_s _ nB b (nI a) hB g22 e1 ((fr_bp hf e1).trans hfb) b 0 1200 rfl (by omega) (Nat.zero_le _) (fun i _ hi => by
            rw [fr_bp hf (by omega), (hf1 i (by omega)).2, Ne, nI_eq (by have := (hf1 i (by omega)).1; omega) (by omega)]
            have := hlo i hi
            omega)
        have hbm : ¬ nI b = mI := by rw [pm_ne (by omega)]; exact fun h => h
        have nle : ¬ nB ≤ b := by omega
        have hm1 : s_X9_setBog (nI a) (nI nd) P = s_X9_setBog_123 (nI a) (nI nd) (nI b) (nI 1) P0 := by
          have n10 : ¬ (1 : Nat) = 0 := by omega
          rw [hm0]
          simp (disch := omega) only [s_X9_setBog_64, s_X9_setBog_94, pm_gd, pm_lit, pm_S, z127, pm_C, nle, hfb, n10, ↓reduceIte]
        have hc1 : s_X8_setBog S (nI a) (nI nd) = s_X8_setBog_72 S (nI a) (nI nd) := by
          rw [hc0, hix _ rfl, hfull]
          simp only [pm_cl, hbm, ↓reduceIte, ite_self]
        obtain ⟨S1, P1, e1', e2', e3, e4, e5, e6, e7, e8⟩ := q_sv hR0
        have n10 : ¬ nI 1 = nI 0 := by decide
        rw [hm1, hc1]
        by_cases ez : nd = 0
        · -- it goes
          subst ez
          have hrm := qc_brem hB g22 e1
          have hZ : ∀ k, (k < 127 ∨ 140 ≤ k) → sl (sl (upd (P0 1) 127 (nI (nB - 1))) 128 b (nB - 1)) 134 b (nB - 1) k = P0 1 k := fun k hk => by
            rw [sl_o (by omega), sl_o (by omega), pm_un _ _ (by omega)]
          have z3 : ∀ i, i < nB - 1 → sl (sl (upd (P0 1) 127 (nI (nB - 1))) 128 b (nB - 1)) 134 b (nB - 1) (128 + i) = if b ≤ i then P0 1 (128 + (i + 1)) else P0 1 (128 + i) := fun i hi => by
            rw [sl_o (by omega)]
            simp only [sl]
            by_cases eb : b ≤ i
            · rw [if_pos (by omega), if_pos eb, pm_un _ _ (by omega)]; rfl
            · rw [if_neg (by omega), if_neg eb, pm_un _ _ (by omega)]
          have z4 : ∀ i, i < nB - 1 → sl (sl (upd (P0 1) 127 (nI (nB - 1))) 128 b (nB - 1)) 134 b (nB - 1) (134 + i) = if b ≤ i then P0 1 (134 + (i + 1)) else P0 1 (134 + i) := fun i hi => by
            by_cases eb : b ≤ i
            · rw [if_pos eb]
              have e9 : sl (sl (upd (P0 1) 127 (nI (nB - 1))) 128 b (nB - 1)) 134 b (nB - 1) (134 + i) = sl (upd (P0 1) 127 (nI (nB - 1))) 128 b (nB - 1) (134 + i + 1) := by
                show (if 134 + b ≤ 134 + i ∧ 134 + i < 134 + (nB - 1) then _ else _) = _
                rw [if_pos (by omega)]
              rw [e9, sl_o (by omega), pm_un _ _ (by omega)]; rfl
            · rw [if_neg eb, sl_o (by omega), sl_o (by omega), pm_un _ _ (by omega)]
          have f2 := fr_bogs (G' := cr_pa (cr_pa (cr_pt (S.1 0) 2 2 (nI (nB - 1))) 3 (sl (S.1 0 3) 0 b (nB - 1))) 4 (sl (S.1 0 4) 0 b (nB - 1))) (mB := nB - 1) (by unfold okn at hn ⊢; omega) hf (fun j h2 h3 h4 => by rw [pm_pan _ _ h4, pm_pan _ _ h3, pm_ptne _ _ _ h2]) hZ (by rw [pm_pan _ _ (by omega), pm_pan _ _ (by omega), pm_pt, pm_u, sl_o (by omega), sl_o (by omega), pm_u]) (fun i hi => by
            rw [z3 i hi, pm_pan _ _ (by omega), pm_pa]
            simp only [sl]
            by_cases eb : b ≤ i
            · rw [if_pos (by omega), if_pos eb, fr_bp hf (by omega)]
            · rw [if_neg (by omega), if_neg eb, fr_bp hf (by omega)]) (fun i hi => by
            rw [z4 i hi, pm_pa]
            simp only [sl]
            by_cases eb : b ≤ i
            · rw [if_pos (by omega), if_pos eb, fr_bn hf (by omega)]
            · rw [if_neg (by omega), if_neg eb, fr_bn hf (by omega)])
          have J2 := J_bogs (mB := nB - 1) hJ (by omega) hZ (by rw [sl_o (by omega), sl_o (by omega), pm_u]) ⟨fun i => if b ≤ i then f (i + 1) else f i, fun i hi => by
            rw [z3 i hi]
            by_cases eb : b ≤ i
            · simp only [if_pos eb]; exact hf1 (i + 1) (by omega)
            · simp only [if_neg eb]; exact hf1 i (by omega), fun i i' hi hi' => by
            show (if b ≤ i then f (i + 1) else f i) < (if b ≤ i' then f (i' + 1) else f i')
            split <;> split
            · exact hf2 _ _ (by omega) (by omega)
            · omega
            · exact hf2 _ _ (by omega) (by omega)
            · exact hf2 _ _ (by omega) (by omega)⟩
          have hR2 := e7 _ _ (BLK_of f2 J2 hh)
          refine Or.inl ⟨nI (nB - 1), _, _, ?_, ?_, ?_, ?_, hR2⟩
          · simp only [s_X8_setBog_72, s_X0_put, e1', pm_cl, e3, hix _ rfl, pm_lit, hrm, ↓pm_bd, cr_us_eq, ↓reduceIte]
            simp (disch := omega) only [pm_pan, pm_pt, pm_u]
          · rw [cr_us_ne _ _ (by omega)]; exact e5
          · simp only [s_X9_setBog_123, e2', pm_cl, pm_lit, n10, e4, z127, ↓pm_bd, ↓reduceIte]
            rw [← e8, pm_ptpa, pk_sub (by omega), pm_papa]
            exact qm_brem_150 P1 (nB - 1) (by omega) (nB - 1 - b) b 1200 _ rfl (by omega) (by omega) (pm_u _ _ _)
          · rw [pm_pan _ _ (by omega), e6]; exact h7
        · -- its need changes
          have nz : ¬ nI nd = nI 0 := by rw [nI_eq (by omega) (by omega)]; exact ez
          have hZ : ∀ k, (k < 127 ∨ 140 ≤ k) → upd (P0 1) (134 + b) (nI nd) k = P0 1 k := fun k hk => pm_un _ _ (by omega)
          have l4 : lvp nT nB nL nP nW 4 b := by simp [lvp, e1]
          have f2 : fr nT nB nL nP nW (cr_pt (S.1 0) 4 b (nI nd)) (upd (P0 1) (134 + b) (nI nd)) := fr_pt (nI nd) hn hf l4
          have J2 := J_bogs (mB := nB) hJ hB hZ ((pm_un _ _ (by omega)).trans z127) ⟨f, fun i hi => by rw [pm_un _ _ (by omega)]; exact hf1 i hi, hf2⟩
          have hR2 := e7 _ _ (BLK_of f2 J2 hh)
          refine Or.inl ⟨nI nB, _, _, ?_, ?_, ?_, ?_, hR2⟩
          · simp (disch := omega) only [s_X8_setBog_72, s_X0_put, e1', pm_cl, e3, hix _ rfl, ↓pm_m1, pm_lit, nz, hbm, pm_in, nI_clamp, pm_gd, ↓pm_bd, cr_us_eq, pm_ptne, g22, ↓reduceIte]
          · rw [cr_us_ne _ _ (by omega)]; exact e5
          · simp (disch := omega) only [s_X9_setBog_123, s_X9_setBog_219, e2', pm_cl, pm_lit, n10, nz, e4, pm_S, pm_gd, ↓pm_bd, ↓reduceIte]
            rw [← e8]
            simp (disch := omega) only [pm_S, z127, pm_papa]
          · rw [pm_pan _ _ (by omega), e6]; exact h7
      · -- none at this place
        have hne : ∀ i, i < nB → f i ≠ a := fun i hi he => by
          by_cases eb : i < b
          · have := hlo i eb; omega
          · have h9 : b < nB := by omega
            have h10 := hat h9
            by_cases ei : i = b
            · subst ei; exact e ⟨h9, he⟩
            · have := hf2 b i (by omega) hi
              omega
        have hix : ∀ G : cr_G, G = S.1 0 → s_X0_indexAt G (nI a) = some mI := by
          rintro G rfl
          simp only [s_X0_indexAt, pm_lit]
          exact qc_indexAt_n _ nB (nI a) hB g22 nB 0 1200 rfl (by omega) (Nat.zero_le _) (fun i _ hi => by
            rw [fr_bp hf hi, (hf1 i hi).2, Ne, nI_eq (by have := (hf1 i hi).1; omega) (by omega)]
            exact hne i hi)
        have hm1 : s_X9_setBog (nI a) (nI nd) P = s_X9_setBog_94 (nI a) (nI nd) (nI b) (nI 0) P0 := by
          rw [hm0]
          by_cases eb : nB ≤ b
          · simp (disch := omega) only [s_X9_setBog_64, pm_lit, z127, pm_C, eb, ↓reduceIte]
          · have h9 := hne b (by omega)
            obtain ⟨h10, h11⟩ := hf1 b (by omega)
            simp (disch := omega) only [s_X9_setBog_64, pm_gd, pm_lit, pm_S, z127, pm_C, eb, h11, h9, ↓reduceIte]
        rw [hm1]
        by_cases ez : nd = 0
        · -- nothing to do
          subst ez
          obtain ⟨S1, P1, e1', e2', e3, e4, e5, e6, e7, e8⟩ := q_sv hR0
          have hR2 := e7 _ _ (BLK_of hf hJ hh)
          have hc1 : s_X8_setBog S (nI a) (nI 0) = s_X8_setBog_72 S (nI a) (nI 0) := by
            rw [hc0]
            exact if_pos rfl
          rw [hc1]
          have hmr : s_X0_removeAt mI (S.1 0) = some (S.1 0) := by
            have hm : mI < 0 := by decide
            simp only [s_X0_removeAt, hm, ↓reduceIte]
          refine Or.inl ⟨nI nB, _, _, ?_, ?_, ?_, ?_, hR2⟩
          · simp only [s_X8_setBog_72, s_X0_put, e1', pm_cl, e3, hix _ rfl, pm_lit, hmr, ↓pm_bd, cr_us_eq, g22, ↓reduceIte]
          · rw [cr_us_ne _ _ (by omega)]; exact e5
          · simp only [s_X9_setBog_94, s_X9_setBog_123, s_X9_setBog_219, pm_lit, e2', pm_cl, e4, z127, ite_self, ↓reduceIte]
            rw [e8]
          · rw [pm_pan _ _ (by omega), e6]; exact h7
        · have nz : ¬ nI nd = nI 0 := by rw [nI_eq (by omega) (by omega)]; exact ez
          by_cases e6b : nB = 6
          · have n6 : ¬ nB < 6 := by omega
            refine Or.inr ⟨"java/lang/IllegalStateException", 2, nI 0, cr_pt P0 0 7 (nI 2), ?_, by decide, ?_, R_f hR0 2⟩
            · rw [hc0, if_neg nz, hfull, hix _ rfl]
              simp only [pm_cl, n6, not_false_eq_true, decide_true, ↓reduceIte]
            · simp (disch := omega) only [s_X9_setBog_94, pm_lit, z127, pm_C, e6b, nz, ez, qm_fails, pm_cl, ↓reduceIte]
          · have n6 : nB < 6 := by omega
            obtain ⟨S1, P1, e1', e2', e3, e4, e5, e6, e7, e8⟩ := q_sv hR0
            have hhi : ∀ i, b ≤ i → i < nB → a < f i := fun i h9 h10 => by
              have h11 := hat (by omega)
              have h12 := hne b (by omega)
              by_cases ei : i = b
              · subst ei; omega
              · have := hf2 b i (by omega) h10
                omega
            have hins := qc_bins_19 (S.1 0) nB b a (nI nd) f n6 ha2 (fun i hi => (hf1 i hi).1) g22 hb (fun i hi => by have := hlo i hi; omega) hhi (nB - b) nB 1200 (S.1 0 3) (S.1 0 4) rfl (by omega) hb (Nat.le_refl _) (fun i hi => (fr_bp hf hi).trans (hf1 i hi).2)
            rw [pm_self, pm_self] at hins
            have hZ : ∀ k, (k < 127 ∨ 140 ≤ k) → upd (upd (upd (sr (sr (P0 1) 128 b nB) 134 b nB) (128 + b) (nI a)) (134 + b) (nI nd)) 127 (nI (nB + 1)) k = P0 1 k := fun k hk => by
              rw [pm_un _ _ (by omega), pm_un _ _ (by omega), pm_un _ _ (by omega), sr_o (by omega), sr_o (by omega)]
            have z3 : ∀ i, i < nB + 1 → upd (upd (upd (sr (sr (P0 1) 128 b nB) 134 b nB) (128 + b) (nI a)) (134 + b) (nI nd)) 127 (nI (nB + 1)) (128 + i) = if i = b then nI a else if b < i then P0 1 (128 + (i - 1)) else P0 1 (128 + i) := fun i hi => by
              rw [pm_un _ _ (by omega), pm_un _ _ (by omega)]
              by_cases eb : i = b
              · subst eb; rw [pm_u, if_pos rfl]
              · rw [pm_un _ _ (by omega), if_neg eb, sr_o (by omega)]
                simp only [sr]
                by_cases el : b < i
                · rw [if_pos (by omega), if_pos el, show 128 + i - 1 = 128 + (i - 1) by omega]
                · rw [if_neg (by omega), if_neg el]
            have z4 : ∀ i, i < nB + 1 → upd (upd (upd (sr (sr (P0 1) 128 b nB) 134 b nB) (128 + b) (nI a)) (134 + b) (nI nd)) 127 (nI (nB + 1)) (134 + i) = if i = b then nI nd else if b < i then P0 1 (134 + (i - 1)) else P0 1 (134 + i) := fun i hi => by
              rw [pm_un _ _ (by omega)]
              by_cases eb : i = b
              · subst eb; rw [pm_u, if_pos rfl]
              · rw [pm_un _ _ (by omega), if_neg eb, pm_un _ _ (by omega)]
                by_cases el : b < i
                · have e9 : sr (sr (P0 1) 128 b nB) 134 b nB (134 + i) = sr (P0 1) 128 b nB (134 + i - 1) := by
                    show (if 134 + b < 134 + i ∧ 134 + i ≤ 134 + nB then _ else _) = _
                    rw [if_pos (by omega)]
                  rw [if_pos el, e9, sr_o (by omega), show 134 + i - 1 = 134 + (i - 1) by omega]
                · rw [if_neg el, sr_o (by omega), sr_o (by omega)]
            have f2 := fr_bogs (G' := cr_pt (cr_pa (cr_pa (S.1 0) 3 (upd (sr (S.1 0 3) 0 b nB) b (nI a))) 4 (upd (sr (S.1 0 4) 0 b nB) b (nI nd))) 2 2 (nI (nB + 1))) (mB := nB + 1) (by unfold okn at hn ⊢; omega) hf (fun j h2 h3 h4 => by rw [pm_ptne _ _ _ h2, pm_pan _ _ h4, pm_pan _ _ h3]) hZ (by rw [pm_pt, pm_u, pm_u]) (fun i hi => by
              rw [z3 i hi, pm_ptne _ _ _ (by omega), pm_pan _ _ (by omega), pm_pa]
              by_cases eb : i = b
              · subst eb; rw [pm_u, if_pos rfl]
              · rw [pm_un _ _ eb, if_neg eb]
                simp only [sr]
                by_cases el : b < i
                · rw [if_pos (by omega), if_pos el, fr_bp hf (by omega)]
                · rw [if_neg (by omega), if_neg el, fr_bp hf (by omega)]) (fun i hi => by
              rw [z4 i hi, pm_ptne _ _ _ (by omega), pm_pa]
              by_cases eb : i = b
              · subst eb; rw [pm_u, if_pos rfl]
              · rw [pm_un _ _ eb, if_neg eb]
                simp only [sr]
                by_cases el : b < i
                · rw [if_pos (by omega), if_pos el, fr_bn hf (by omega)]
                · rw [if_neg (by omega), if_neg el, fr_bn hf (by omega)])
            have J2 := J_bogs (mB := nB + 1) hJ (by omega) hZ (pm_u _ _ _) ⟨fun i => if i = b then a else if b < i then f (i - 1) else f i, fun i hi => by
              rw [z3 i hi]
              by_cases eb : i = b
              · simp only [if_pos eb]; exact ⟨ha2, trivial⟩
              · by_cases el : b < i
                · simp only [if_neg eb, if_pos el]; exact hf1 (i - 1) (by omega)
                · simp only [if_neg eb, if_neg el]; exact hf1 i (by omega), fun i i' hi hi' => by
              show (if i = b then a else if b < i then f (i - 1) else f i) < (if i' = b then a else if b < i' then f (i' - 1) else f i')
              by_cases eb : i = b
              · have : ¬ i' = b := by omega
                rw [if_pos eb, if_neg this, if_pos (by omega)]
                exact hhi (i' - 1) (by omega) (by omega)
              · rw [if_neg eb]
                by_cases eb' : i' = b
                · rw [if_pos eb', if_neg (by omega)]
                  exact hlo i (by omega)
                · rw [if_neg eb']
                  split <;> split
                  · exact hf2 _ _ (by omega) (by omega)
                  · omega
                  · exact hf2 _ _ (by omega) (by omega)
                  · exact hf2 _ _ (by omega) (by omega)⟩
            have hR2 := e7 _ _ (BLK_of f2 J2 hh)
            have hc1 : s_X8_setBog S (nI a) (nI nd) = s_X8_setBog_72 S (nI a) (nI nd) := by
              rw [hc0, if_neg nz, hfull]
              simp only [pm_cl, n6, not_true_eq_false, decide_false, ↓reduceIte, Bool.false_eq_true]
            rw [hc1]
            refine Or.inl ⟨nI (nB + 1), _, _, ?_, ?_, ?_, ?_, hR2⟩
            · simp only [s_X8_setBog_72, s_X0_put, s_X0_insert, e1', pm_cl, e3, hix _ rfl, ↓pm_m1, pm_lit, nz, hfull, n6, not_true_eq_false, decide_false, ↓pm_bd, g22, hins, cr_us_eq, pm_pt, pm_u, ↓reduceIte, Bool.false_eq_true]
            · rw [cr_us_ne _ _ (by omega)]; exact e5
            · simp (disch := omega) only [s_X9_setBog_94, s_X9_setBog_123, s_X9_setBog_219, pm_lit, z127, pm_C, e6b, ez, e2', pm_cl, e4, ↓pm_bd, ↓reduceIte]
              rw [← e8, pm_papa]
              exact qm_bins_251 P1 nB b (nI a) (nI nd) n6 hb (nB - b) nB 1200 _ rfl (by omega) hb (Nat.le_refl _) z127
            · rw [pm_pan _ _ (by omega), e6]; exact h7
    · refine Or.inr ⟨"java/lang/IllegalArgumentException", 1, nI 0, cr_pt P0 0 7 (nI 1), ?_, by decide, ?_, R_f hR0 1⟩
      · simp only [s_X8_setBog, s_X8_setBog_20, pm_lit, c1, c2, pm_cl, ↓reduceIte, Bool.false_eq_true]
      · simp only [s_X9_setBog, s_X9_setBog_25, ↓pm_bd, pm_lit, ← hP0, m1, m2, pm_cl, qm_fails, ↓reduceIte, Bool.false_eq_true]
  · refine Or.inr ⟨"java/lang/IllegalArgumentException", 1, nI 0, cr_pt P0 0 7 (nI 1), ?_, by decide, ?_, R_f hR0 1⟩
    · simp only [s_X8_setBog, s_X8_setBog_20, pm_lit, c1, pm_cl, ↓reduceIte, Bool.false_eq_true]
    · simp only [s_X9_setBog, s_X9_setBog_25, ↓pm_bd, pm_lit, ← hP0, m1, pm_cl, qm_fails, ↓reduceIte, Bool.false_eq_true]
