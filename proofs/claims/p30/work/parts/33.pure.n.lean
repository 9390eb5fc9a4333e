theorem pI_pos : ∀ {c : Nat}, 0 < c → pI c = nI (c - 1)
  | 0, h => absurd h (Nat.lt_irrefl 0)
  | _ + 1, _ => rfl
theorem q_blade {S : cr_S} {P : cr_G} (hR : R S P) (p q : Int32) : AGr S (s_X8_blade S p q) (s_X9_blade p q P) cOA := by
  obtain ⟨P0, hP0, h1, hpa, hR0, h7⟩ := q_start hR
  obtain ⟨⟨nT, nB, nL, nP, nW, h, hf, hJ, hh⟩, -⟩ := hR
  rw [← h1] at hf hJ
  have hL := hJ.1.1.2.2.1
  have z := hJ.1.2.2.2.1
  have g5 := (fr_l hf).trans z
  rcases q_ix p (c := nL) (by omega) with ⟨n, hn, rfl, c1, m1⟩ | ⟨c1, m1⟩
  · rcases q_wi q (lo := 0) (hi := 1) (by omega) (by omega) with ⟨m, -, hm, rfl, c2, m2⟩ | ⟨c2, m2⟩
    · have d1 := c1
      have d2 := m1
      rw [pI_pos (show 0 < nL by omega)] at d1 d2
      by_cases e : m = 0
      · subst e
        refine Or.inl ⟨P0 1 (157 + n), P0, ?_, ?_, h7, hR0⟩
        · simp (disch := omega) only [s_X8_blade, pm_lit, g5, d1, pm_cl, c2, pm_S, pm_gd, fr_lw hf hn, ↓reduceIte]
        · simp (disch := omega) only [s_X9_blade, ↓pm_bd, pm_lit, ← hP0, z, d2, pm_cl, m2, pm_S, pm_gd, ↓reduceIte]
      · refine Or.inl ⟨P0 1 (167 + n), P0, ?_, ?_, h7, hR0⟩
        · simp (disch := omega) only [s_X8_blade, pm_lit, g5, d1, pm_cl, c2, pm_C, e, pm_S, pm_gd, fr_lg hf hn, ↓reduceIte]
        · simp (disch := omega) only [s_X9_blade, ↓pm_bd, pm_lit, ← hP0, z, d2, pm_cl, m2, pm_C, e, pm_S, pm_gd, ↓reduceIte]
    · refine Or.inr ⟨"java/lang/IllegalArgumentException", 2, nI 0, cr_pt P0 0 7 (nI 2), ?_, by decide, ?_, R_f hR0 2⟩
      · simp only [s_X8_blade, pm_lit, g5, pI_sub, c1, pm_cl, c2, ↓reduceIte, Bool.false_eq_true]
      · simp only [s_X9_blade, ↓pm_bd, pm_lit, ← hP0, z, pI_sub, m1, pm_cl, m2, qm_fails, ↓reduceIte, Bool.false_eq_true]
  · refine Or.inr ⟨"java/lang/IndexOutOfBoundsException", 1, nI 0, cr_pt P0 0 7 (nI 1), ?_, by decide, ?_, R_f hR0 1⟩
    · simp only [s_X8_blade, pm_lit, g5, pI_sub, c1, pm_cl, ↓reduceIte, Bool.false_eq_true]
    · simp only [s_X9_blade, ↓pm_bd, pm_lit, ← hP0, z, pI_sub, m1, pm_cl, qm_fails, ↓reduceIte, Bool.false_eq_true]
theorem q_bog {S : cr_S} {P : cr_G} (hR : R S P) (p q : Int32) : AGr S (s_X8_bog S p q) (s_X9_bog p q P) cOA := by
  obtain ⟨P0, hP0, h1, hpa, hR0, h7⟩ := q_start hR
  obtain ⟨⟨nT, nB, nL, nP, nW, h, hf, hJ, hh⟩, -⟩ := hR
  rw [← h1] at hf hJ
  have hL := hJ.1.1.2.1
  have z := hJ.1.2.2.1
  have g5 := (fr_b hf).trans z
  rcases q_ix p (c := nB) (by omega) with ⟨n, hn, rfl, c1, m1⟩ | ⟨c1, m1⟩
  · rcases q_wi q (lo := 0) (hi := 1) (by omega) (by omega) with ⟨m, -, hm, rfl, c2, m2⟩ | ⟨c2, m2⟩
    · have d1 := c1
      have d2 := m1
      rw [pI_pos (show 0 < nB by omega)] at d1 d2
      by_cases e : m = 0
      · subst e
        refine Or.inl ⟨P0 1 (128 + n), P0, ?_, ?_, h7, hR0⟩
        · simp (disch := omega) only [s_X8_bog, pm_lit, g5, d1, pm_cl, c2, pm_S, pm_gd, fr_bp hf hn, ↓reduceIte]
        · simp (disch := omega) only [s_X9_bog, ↓pm_bd, pm_lit, ← hP0, z, d2, pm_cl, m2, pm_S, pm_gd, ↓reduceIte]
      · refine Or.inl ⟨P0 1 (134 + n), P0, ?_, ?_, h7, hR0⟩
        · simp (disch := omega) only [s_X8_bog, pm_lit, g5, d1, pm_cl, c2, pm_C, e, pm_S, pm_gd, fr_bn hf hn, ↓reduceIte]
        · simp (disch := omega) only [s_X9_bog, ↓pm_bd, pm_lit, ← hP0, z, d2, pm_cl, m2, pm_C, e, pm_S, pm_gd, ↓reduceIte]
    · refine Or.inr ⟨"java/lang/IllegalArgumentException", 2, nI 0, cr_pt P0 0 7 (nI 2), ?_, by decide, ?_, R_f hR0 2⟩
      · simp only [s_X8_bog, pm_lit, g5, pI_sub, c1, pm_cl, c2, ↓reduceIte, Bool.false_eq_true]
      · simp only [s_X9_bog, ↓pm_bd, pm_lit, ← hP0, z, pI_sub, m1, pm_cl, m2, qm_fails, ↓reduceIte, Bool.false_eq_true]
  · refine Or.inr ⟨"java/lang/IndexOutOfBoundsException", 1, nI 0, cr_pt P0 0 7 (nI 1), ?_, by decide, ?_, R_f hR0 1⟩
    · simp only [s_X8_bog, pm_lit, g5, pI_sub, c1, pm_cl, ↓reduceIte, Bool.false_eq_true]
    · simp only [s_X9_bog, ↓pm_bd, pm_lit, ← hP0, z, pI_sub, m1, pm_cl, qm_fails, ↓reduceIte, Bool.false_eq_true]
theorem q_claims {S : cr_S} {P : cr_G} (hR : R S P) (p : Int32) : AGr S (s_X8_claims S p) (s_X9_claims p P) cIA := by
  obtain ⟨P0, hP0, h1, hpa, hR0, h7⟩ := q_start hR
  obtain ⟨⟨nT, nB, nL, nP, nW, h, hf, hJ, hh⟩, -⟩ := hR
  rw [← h1] at hf hJ
  rcases q_wi p (lo := 0) (hi := 4) (by omega) (by omega) with ⟨n, -, hn, rfl, c1, m1⟩ | ⟨c1, m1⟩
  · refine Or.inl ⟨P0 1 (177 + n), P0, ?_, ?_, h7, hR0⟩
    · simp (disch := omega) only [s_X8_claims, pm_lit, c1, pm_cl, pm_S, pm_gd, fr_q hf (show n < 5 by omega), ↓reduceIte]
    · simp (disch := omega) only [s_X9_claims, ↓pm_bd, pm_lit, ← hP0, m1, pm_cl, pm_S, pm_gd, ↓reduceIte]
  · refine Or.inr ⟨"java/lang/IllegalArgumentException", 1, nI 0, cr_pt P0 0 7 (nI 1), ?_, by decide, ?_, R_f hR0 1⟩
    · simp only [s_X8_claims, pm_lit, c1, pm_cl, ↓reduceIte, Bool.false_eq_true]
    · simp only [s_X9_claims, ↓pm_bd, pm_lit, ← hP0, m1, pm_cl, qm_fails, ↓reduceIte, Bool.false_eq_true]
theorem q_setting {S : cr_S} {P : cr_G} (hR : R S P) (p : Int32) : AGr S (s_X8_setting S p) (s_X9_setting p P) cIO := by
  obtain ⟨P0, hP0, h1, hpa, hR0, h7⟩ := q_start hR
  obtain ⟨⟨nT, nB, nL, nP, nW, h, hf, hJ, hh⟩, -⟩ := hR
  rw [← h1] at hf hJ
  rcases q_wi p (lo := 0) (hi := 6) (by omega) (by omega) with ⟨n, -, hn, rfl, c1, m1⟩ | ⟨c1, m1⟩
  · refine Or.inl ⟨P0 1 (71 + n), P0, ?_, ?_, h7, hR0⟩
    · simp (disch := omega) only [s_X8_setting, s_X8_requireSetting, cr_clx, pm_lit, c1, pm_cl, pm_S, pm_gd, fr_s hf (show n < 7 by omega), ↓reduceIte]
    · simp (disch := omega) only [s_X9_setting, ↓pm_bd, pm_lit, ← hP0, m1, pm_cl, pm_S, pm_gd, ↓reduceIte]
  · refine Or.inr ⟨"java/lang/IndexOutOfBoundsException", 1, nI 0, cr_pt P0 0 7 (nI 1), ?_, by decide, ?_, R_f hR0 1⟩
    · simp only [s_X8_setting, s_X8_requireSetting, cr_clx, pm_lit, c1, pm_cl, ↓reduceIte, Bool.false_eq_true]
    · simp only [s_X9_setting, ↓pm_bd, pm_lit, ← hP0, m1, pm_cl, qm_fails, ↓reduceIte, Bool.false_eq_true]
theorem q_count {S : cr_S} {P : cr_G} (hR : R S P) (p : Int32) : AGr S (s_X8_count S p) (s_X9_count p P) cIA := by
  obtain ⟨P0, hP0, h1, hpa, hR0, h7⟩ := q_start hR
  obtain ⟨⟨nT, nB, nL, nP, nW, h, hf, hJ, hh⟩, -⟩ := hR
  have hR9 := hR0
  obtain ⟨-, ⟨o, c, -, -, -, b4, b5, -⟩, -⟩ := hR9
  rw [← h1] at hf hJ hpa
  rcases q_wi p (lo := 0) (hi := 14) (by omega) (by omega) with ⟨n, -, hn, rfl, c1, m1⟩ | ⟨c1, m1⟩
  · obtain ⟨v, v1, v2⟩ := q_counted (M := P0) hf hJ (by omega) (b4.trans b5.symm) (nI n)
    rw [hpa] at v2
    refine Or.inl ⟨v, P0, ?_, ?_, h7, hR0⟩
    · simp only [s_X8_count, pm_lit, c1, pm_cl, v1, ↓reduceIte]
    · simp only [s_X9_count, ↓pm_bd, pm_lit, ← hP0, m1, pm_cl, v2, ↓reduceIte]
  · refine Or.inr ⟨"java/lang/IllegalArgumentException", 1, nI 0, cr_pt P0 0 7 (nI 1), ?_, by decide, ?_, R_f hR0 1⟩
    · simp only [s_X8_count, pm_lit, c1, pm_cl, ↓reduceIte, Bool.false_eq_true]
    · simp only [s_X9_count, ↓pm_bd, pm_lit, ← hP0, m1, pm_cl, qm_fails, ↓reduceIte, Bool.false_eq_true]
theorem q_wayop {S : cr_S} {P : cr_G} (hR : R S P) (p q : Int32) : AGr S (s_X8_way S p q) (s_X9_way p q P) cIA := by
  obtain ⟨P0, hP0, h1, hpa, hR0, h7⟩ := q_start hR
  obtain ⟨⟨nT, nB, nL, nP, nW, h, hf, hJ, hh⟩, -⟩ := hR
  rw [← h1] at hf hJ hpa
  rcases q_wi p (lo := 0) (hi := 99) (by omega) (by omega) with ⟨n, -, hn, rfl, c1, m1⟩ | ⟨c1, m1⟩
  · rcases q_wi q (lo := 0) (hi := 99) (by omega) (by omega) with ⟨m, -, hm, rfl, c2, m2⟩ | ⟨c2, m2⟩
    · obtain ⟨w, -, w1, w2⟩ := q_way (M := P0) hf hJ.1.1.2.1 hJ.1.2.2.1 hJ.2.1 hJ.2.2.2.2.2.2.2.1 hn hm
      rw [hpa] at w2
      refine Or.inl ⟨nI w, P0, ?_, ?_, h7, hR0⟩
      · simp only [s_X8_way, pm_lit, c1, pm_cl, c2, w1, ↓reduceIte]
      · simp only [s_X9_way, ↓pm_bd, pm_lit, ← hP0, m1, pm_cl, m2, w2, ↓reduceIte]
    · refine Or.inr ⟨"java/lang/IllegalArgumentException", 1, nI 0, cr_pt P0 0 7 (nI 1), ?_, by decide, ?_, R_f hR0 1⟩
      · simp only [s_X8_way, s_X8_way_20, pm_lit, c1, pm_cl, c2, ↓reduceIte, Bool.false_eq_true]
      · simp only [s_X9_way, s_X9_way_34, ↓pm_bd, pm_lit, ← hP0, m1, pm_cl, m2, qm_fails, ↓reduceIte, Bool.false_eq_true]
  · refine Or.inr ⟨"java/lang/IllegalArgumentException", 1, nI 0, cr_pt P0 0 7 (nI 1), ?_, by decide, ?_, R_f hR0 1⟩
    · simp only [s_X8_way, s_X8_way_20, pm_lit, c1, pm_cl, ↓reduceIte, Bool.false_eq_true]
    · simp only [s_X9_way, s_X9_way_34, ↓pm_bd, pm_lit, ← hP0, m1, pm_cl, qm_fails, ↓reduceIte, Bool.false_eq_true]
theorem q_windowop {S : cr_S} {P : cr_G} (hR : R S P) (p q : Int32) : AGr S (s_X8_window S p q) (s_X9_window p q P) cOA := by
  obtain ⟨P0, hP0, h1, hpa, hR0, h7⟩ := q_start hR
  obtain ⟨⟨nT, nB, nL, nP, nW, h, hf, hJ, hh⟩, -⟩ := hR
  rw [← h1] at hf hJ hpa
  rcases q_tb (P := P0) p hJ.1.1.1 ((fr_n hf).trans hJ.1.2.1) hJ.1.2.1 with ⟨t, ht, rfl, c1, m1⟩ | ⟨c1, m1⟩
  · rcases q_wi q (lo := 1) (hi := 24) (by omega) (by omega) with ⟨n, hn1, hn2, rfl, c2, m2⟩ | ⟨c2, m2⟩
    · obtain ⟨v, v1, v2⟩ := q_window (M := P0) hf hJ (by omega) ht ⟨hn1, hn2⟩
      rw [hpa] at v2
      refine Or.inl ⟨v, P0, ?_, ?_, h7, hR0⟩
      · simp only [s_X8_window, s_X8_requireTurbine, cr_clx, pm_lit, c1, pm_cl, c2, v1, ↓reduceIte]
      · simp only [s_X9_window, ↓pm_bd, pm_lit, ← hP0, m1, pm_cl, m2, v2, ↓reduceIte]
    · refine Or.inr ⟨"java/lang/IllegalArgumentException", 2, nI 0, cr_pt P0 0 7 (nI 2), ?_, by decide, ?_, R_f hR0 2⟩
      · simp only [s_X8_window, s_X8_requireTurbine, cr_clx, pm_lit, c1, pm_cl, c2, ↓reduceIte, Bool.false_eq_true]
      · simp only [s_X9_window, ↓pm_bd, pm_lit, ← hP0, m1, pm_cl, m2, qm_fails, ↓reduceIte, Bool.false_eq_true]
  · refine Or.inr ⟨"java/lang/IndexOutOfBoundsException", 1, nI 0, cr_pt P0 0 7 (nI 1), ?_, by decide, ?_, R_f hR0 1⟩
    · simp only [s_X8_window, s_X8_requireTurbine, cr_clx, pm_lit, c1, pm_cl, ↓reduceIte, Bool.false_eq_true]
    · simp only [s_X9_window, ↓pm_bd, pm_lit, ← hP0, m1, pm_cl, qm_fails, ↓reduceIte, Bool.false_eq_true]
/-! ### what would be -/
theorem q_ifPassed {S : cr_S} {P : cr_G} (hR : R S P) (p q : Int32) : AG S (s_X8_ifPassed S p q) (s_X9_ifPassed p q P) cIA := by
  obtain ⟨P0, hP0, h1, hpa, hR0, h7⟩ := q_start hR
  obtain ⟨⟨nT, nB, nL, nP, nW, h, hf, hJ, hh⟩, -⟩ := hR
  rw [← h1] at hf hJ hpa
  rcases q_wi p (lo := 1) (hi := 200) (by omega) (by omega) with ⟨K, hK1, hK2, rfl, c1, m1⟩ | ⟨c1, m1⟩
  · rcases q_wi q (lo := 0) (hi := 8) (by omega) (by omega) with ⟨a, -, ha, rfl, c2, m2⟩ | ⟨c2, m2⟩
    · obtain ⟨v, w, G1, G2, M', e1, e2, e3, e4, e5⟩ := q_after (K := K) (a := a) hf hJ (by omega) (by omega) ha (S.1 1)
      refine Or.inl ⟨w, cr_us S 1 G2, M', ?_, cr_us_ne S _ (by omega), ?_, ?_, R_scr hR0 e5 G2⟩
      · have g1 : ∀ X, (cr_us S 1 X).1 1 = X := fun X => cr_us_eq S 1 X
        simp only [s_X8_ifPassed, ↓pm_bd, pm_lit, c1, pm_cl, c2, e1, g1, e2, cr_us_us, e3, ↓reduceIte]
      · simp only [s_X9_ifPassed, ↓pm_bd, pm_lit, ← hP0, m1, pm_cl, m2, e4, ↓reduceIte]
      · rw [e5.1 0 (by omega) (by omega)]; exact h7
    · refine Or.inr ⟨"java/lang/IllegalArgumentException", 1, nI 0, cr_pt P0 0 7 (nI 1), ?_, by decide, ?_, R_f hR0 1⟩
      · simp only [s_X8_ifPassed, s_X8_ifPassed_21, pm_lit, c1, pm_cl, c2, ↓reduceIte, Bool.false_eq_true]
      · simp only [s_X9_ifPassed, s_X9_ifPassed_35, ↓pm_bd, pm_lit, ← hP0, m1, pm_cl, m2, qm_fails, ↓reduceIte, Bool.false_eq_true]
  · refine Or.inr ⟨"java/lang/IllegalArgumentException", 1, nI 0, cr_pt P0 0 7 (nI 1), ?_, by decide, ?_, R_f hR0 1⟩
    · simp only [s_X8_ifPassed, s_X8_ifPassed_21, pm_lit, c1, pm_cl, ↓reduceIte, Bool.false_eq_true]
    · simp only [s_X9_ifPassed, s_X9_ifPassed_35, ↓pm_bd, pm_lit, ← hP0, m1, pm_cl, qm_fails, ↓reduceIte, Bool.false_eq_true]
/-- an operation that doesn't throw: the same answer, the relation kept -/
def AGn (S : cr_S) (o : Option (Int32 × cr_S)) (m : Option (Int32 × cr_G)) : Prop := ∃ (v : Int32) (S1 : cr_S) (P1 : cr_G), o = some (v, S1) ∧ S1.1 9 = S.1 9 ∧ m = some (v, P1) ∧ R S1 P1
theorem q_bestop {S : cr_S} {P : cr_G} (hR : R S P) : AGn S (s_X8_bestFirst S) (s_X9_bestFirst P) := by
  obtain ⟨P0, hP0, h1, hpa, hR0, h7⟩ := q_start hR
  obtain ⟨⟨nT, nB, nL, nP, nW, h, hf, hJ, hh⟩, -⟩ := hR
  rw [← h1] at hf hJ hpa
  obtain ⟨v, Gy, M2, e1, e2, e3⟩ := q_best hf hJ (by omega)
  refine ⟨v, cr_us S 1 Gy, M2, e1, cr_us_ne S _ (by omega), ?_, R_scr hR0 e3 Gy⟩
  simp only [s_X9_bestFirst, ↓pm_bd, pm_lit, ← hP0, e2, pm_cl]
theorem q_doneop {S : cr_S} {P : cr_G} (hR : R S P) : AGn S (s_X8_doneIn S) (s_X9_doneIn P) := by
  obtain ⟨P0, hP0, h1, hpa, hR0, h7⟩ := q_start hR
  obtain ⟨⟨nT, nB, nL, nP, nW, h, hf, hJ, hh⟩, -⟩ := hR
  rw [← h1] at hf hJ hpa
  obtain ⟨v, Gy, M2, e1, e2, e3⟩ := q_done hf hJ (by omega)
  refine ⟨v, cr_us S 1 Gy, M2, e1, cr_us_ne S _ (by omega), ?_, R_scr hR0 e3 Gy⟩
  simp only [s_X9_doneIn, ↓pm_bd, pm_lit, ← hP0, e2, pm_cl]
