/-! ### changes of the farm -/
theorem q_sv {S : cr_S} {P0 : cr_G} (hR0 : R S P0) : ∃ (S1 : cr_S) (P1 : cr_G), s_X8_saveState S = some S1 ∧ s_X9_save P0 = some P1 ∧ S1.1 0 = S.1 0 ∧ P1 1 = P0 1 ∧ S1.1 9 = S.1 9 ∧ P1 0 7 = P0 0 7 ∧ (∀ (G' : cr_G) (Z' : Nat → Int32), BLK G' Z' → R (cr_us S1 0 G') (cr_pa P1 1 Z')) ∧ cr_pa P1 1 (P0 1) = P1 := by
  obtain ⟨hB, ⟨o, c, hS⟩, len, t1, t2, t3, t4⟩ := hR0
  obtain ⟨S1, P1, o1, c1, e1, e2, e3, e4, e5, e6, e7, e8⟩ := q_save hS hB
  have h11 : P1 1 = P0 1 := e7 1 (by omega) (by omega)
  refine ⟨S1, P1, e1, e2, e4 0 (by omega), h11, e4 9 (by omega), e8 7 (by omega), fun G' Z' hB' => ⟨?_, ⟨o1, c1, ?_⟩, len, t1, ?_, ?_, fun k hk => ?_⟩, ?_⟩
  · rw [cr_us_eq, pm_pa]
    exact hB'
  · obtain ⟨s1, s2, s3, s4, s5, s6⟩ := e3
    refine ⟨s1, s2, ?_, ?_, ?_, fun i hi => ?_⟩
    · rw [cr_us_ne _ _ (by omega)]; exact s3
    · rw [cr_us_ne _ _ (by omega)]; exact s4
    · rw [pm_pan _ _ (by omega)]; exact s5
    · rw [cr_us_ne _ _ (by omega), pm_pan _ _ (by omega)]; exact s6 i hi
  · rw [cr_us_ne _ _ (by omega), e5 2 (by omega)]; exact t2
  · rw [pm_pan _ _ (by omega), e8 6 (by omega)]; exact t3
  · rw [cr_us_ne _ _ (by omega), e5 3 (by omega), pm_pan _ _ (by omega), e7 4 (by omega) (by omega)]; exact t4 k hk
  · rw [← h11]; exact pm_self P1 1
theorem BLK_of {nT nB nL nP nW h : Nat} {G : cr_G} {Z : Nat → Int32} (hf : fr nT nB nL nP nW G Z) (hJ : J nT nB nL nP nW h h Z) (hh : h ≤ 10000) : BLK G Z := ⟨nT, nB, nL, nP, nW, h, hf, hJ, hh⟩
theorem J_fault {nT nB nL nP nW h g t n : Nat} {Z : Nat → Int32} (hJ : J nT nB nL nP nW h g Z) (ht : t < nT) (hn4 : n ≤ 4) : J nT nB nL nP nW h g (upd (upd Z (30 + t) (nI n)) (40 + t) (nI 0)) := by
  obtain ⟨a1, a2, a3, a4, a5, a6, a7, a8, a9, a10⟩ := hJ
  have hn := a1.1
  have hT := hn.1
  have o : ∀ i, i ≠ 30 + t → i ≠ 40 + t → upd (upd Z (30 + t) (nI n)) (40 + t) (nI 0) i = Z i := fun i h1 h2 => by rw [pm_un _ _ h2, pm_un _ _ h1]
  refine ⟨jC_c a1 (o _ (by omega) (by omega)) (o _ (by omega) (by omega)) (o _ (by omega) (by omega)) (o _ (by omega) (by omega)) (o _ (by omega) (by omega)) (o _ (by omega) (by omega)), jS_c a2 (o _ (by omega) (by omega)) (o _ (by omega) (by omega)), fun t' ht' => ?_, jG_c a4 hT (fun k hk => o k (by omega) (by omega)), jQ_c a5 hT (fun k hk => o k (by omega) (by omega)), jP_c a6 hn.2.2.2.1 (fun k hk => o k (by omega) (by omega)), jK_c a7 (fun k hk => o k (by omega) (by omega)), jB_c a8 hn.2.1 (fun k hk => o k (by omega) (by omega)), jW_c a9 hn.2.2.2.2 (fun k hk => o k (by omega) (by omega)), fun t' h1 h2 => ?_⟩
  · refine ⟨?_, ?_, ?_⟩
    · rw [o _ (by omega) (by omega)]; exact (a3 t' ht').1
    · rw [o _ (by omega) (by omega)]; exact (a3 t' ht').2.1
    · by_cases e9 : t' = t
      · subst e9
        rw [pm_un _ _ (by omega), pm_u]
        exact ⟨n, hn4, rfl⟩
      · rw [o _ (by omega) (by omega)]; exact (a3 t' ht').2.2
  · rw [o _ (by omega) (by omega), o _ (by omega) (by omega), o _ (by omega) (by omega), o _ (by omega) (by omega)]
    exact a10 t' h1 h2
theorem q_setFault {S : cr_S} {P : cr_G} (hR : R S P) (p q : Int32) : AG S (s_X8_setFault S p q) (s_X9_setFault p q P) cOA := by
  obtain ⟨P0, hP0, h1, hpa, hR0, h7⟩ := q_start hR
  obtain ⟨⟨nT, nB, nL, nP, nW, h, hf, hJ, hh⟩, -⟩ := hR
  rw [← h1] at hf hJ hpa
  have hn := hJ.1.1
  rcases q_tb (P := P0) p hn.1 ((fr_n hf).trans hJ.1.2.1) hJ.1.2.1 with ⟨t, ht, rfl, c1, m1⟩ | ⟨c1, m1⟩
  · rcases q_wi q (lo := 0) (hi := 4) (by omega) (by omega) with ⟨n, -, hn4, rfl, c2, m2⟩ | ⟨c2, m2⟩
    · obtain ⟨S1, P1, e1, e2, e3, e4, e5, e6, e7, e8⟩ := q_sv hR0
      have hT := hn.1
      have l3 : lvp nT nB nL nP nW (t + 15) 3 := by simp only [lvp]; omega
      have l4 : lvp nT nB nL nP nW (t + 15) 4 := by simp only [lvp]; omega
      have m3 : mp (t + 15) 3 = 30 + t := by rw [mp_t]
      have m4 : mp (t + 15) 4 = 40 + t := by rw [mp_t]
      have f1 := fr_pt (nI n) hn hf l3
      rw [m3] at f1
      have f2 := fr_pt (nI 0) hn f1 l4
      rw [m4] at f2
      have hR2 := e7 _ _ (BLK_of f2 (J_fault hJ ht hn4) hh)
      refine Or.inl ⟨P0 1 (30 + t), _, _, ?_, ?_, ?_, ?_, hR2⟩
      · have g3 : S1.1 0 (t + 15) 3 = P0 1 (30 + t) := by rw [e3]; exact fr_t3 hf ht
        simp (disch := omega) only [s_X8_setFault, s_X8_requireTurbine, cr_clx, pm_lit, c1, pm_cl, c2, e1, pm_S, pm_gd, ↓pm_bd, g3, cr_sp, cr_us_eq, cr_us_us, e3, ↓reduceIte]
      · rw [cr_us_ne _ _ (by omega)]; exact e5
      · simp (disch := omega) only [s_X9_setFault, ↓pm_bd, pm_lit, ← hP0, m1, pm_cl, m2, e2, pm_gd, pm_S, e4, ↓reduceIte]
        rw [← e8]
        simp (disch := omega) only [pm_S, pm_papa]
      · rw [pm_pan _ _ (by omega), e6]; exact h7
    · refine Or.inr ⟨"java/lang/IllegalArgumentException", 2, nI 0, cr_pt P0 0 7 (nI 2), ?_, by decide, ?_, R_f hR0 2⟩
      · simp only [s_X8_setFault, s_X8_requireTurbine, cr_clx, pm_lit, c1, pm_cl, c2, ↓reduceIte, Bool.false_eq_true]
      · simp only [s_X9_setFault, ↓pm_bd, pm_lit, ← hP0, m1, pm_cl, m2, qm_fails, ↓reduceIte, Bool.false_eq_true]
  · refine Or.inr ⟨"java/lang/IndexOutOfBoundsException", 1, nI 0, cr_pt P0 0 7 (nI 1), ?_, by decide, ?_, R_f hR0 1⟩
    · simp only [s_X8_setFault, s_X8_requireTurbine, cr_clx, pm_lit, c1, pm_cl, ↓reduceIte, Bool.false_eq_true]
    · simp only [s_X9_setFault, ↓pm_bd, pm_lit, ← hP0, m1, pm_cl, qm_fails, ↓reduceIte, Bool.false_eq_true]
theorem q_pass {S : cr_S} {P : cr_G} (hR : R S P) (p : Int32) : AG S (s_X8_pass S p) (s_X9_pass p P) cAS := by
  obtain ⟨P0, hP0, h1, hpa, hR0, h7⟩ := q_start hR
  obtain ⟨⟨nT, nB, nL, nP, nW, h, hf, hJ, hh⟩, -⟩ := hR
  rw [← h1] at hf hJ hpa
  have z182 := hJ.1.2.2.2.2.2.2
  have g09 : S.1 0 0 9 = nI h := (fr_h hf).trans z182
  rcases q_wi p (lo := 1) (hi := 200) (by omega) (by omega) with ⟨K, hK1, hK2, rfl, c1, m1⟩ | ⟨c1, m1⟩
  · by_cases e : h + K ≤ 10000
    · have e' : ¬ 10000 < h + K := by omega
      obtain ⟨S1, P1, e1, e2, e3, e4, e5, e6, e7, e8⟩ := q_sv hR0
      obtain ⟨nL', nP', v, G', Z', d1, d2, d3, d4⟩ := q_runHours (M := P1) (K := K) hf hJ (by omega) (by omega)
      have hR2 := e7 _ _ (BLK_of d3 d4 e)
      rw [e8] at d2
      refine Or.inl ⟨v, _, _, ?_, ?_, ?_, ?_, hR2⟩
      · simp (disch := omega) only [s_X8_pass, pm_lit, c1, pm_cl, g09, pm_add, pm_C, e, e1, e3, d1, ↓pm_bd, ↓reduceIte]
      · rw [cr_us_ne _ _ (by omega)]; exact e5
      · simp (disch := omega) only [s_X9_pass, ↓pm_bd, pm_lit, ← hP0, m1, pm_cl, z182, pm_add, pm_C, e, e2, d2, ↓reduceIte]
      · rw [pm_pan _ _ (by omega), e6]; exact h7
    · have e' : 10000 < h + K := by omega
      refine Or.inr ⟨"java/lang/IllegalStateException", 2, nI 0, cr_pt P0 0 7 (nI 2), ?_, by decide, ?_, R_f hR0 2⟩
      · simp (disch := omega) only [s_X8_pass, pm_lit, c1, pm_cl, g09, pm_add, pm_C, e, ↓reduceIte]
      · simp (disch := omega) only [s_X9_pass, ↓pm_bd, pm_lit, ← hP0, m1, pm_cl, z182, pm_add, pm_C, e, qm_fails, ↓reduceIte]
  · refine Or.inr ⟨"java/lang/IllegalArgumentException", 1, nI 0, cr_pt P0 0 7 (nI 1), ?_, by decide, ?_, R_f hR0 1⟩
    · simp only [s_X8_pass, pm_lit, c1, pm_cl, ↓reduceIte, Bool.false_eq_true]
    · simp only [s_X9_pass, ↓pm_bd, pm_lit, ← hP0, m1, pm_cl, qm_fails, ↓reduceIte, Bool.false_eq_true]
theorem q_unplan {S : cr_S} {P : cr_G} (hR : R S P) (p : Int32) : AG S (s_X8_unplan S p) (s_X9_unplan p P) cOS := by
  obtain ⟨P0, hP0, h1, hpa, hR0, h7⟩ := q_start hR
  obtain ⟨⟨nT, nB, nL, nP, nW, h, hf, hJ, hh⟩, -⟩ := hR
  rw [← h1] at hf hJ hpa
  have hn := hJ.1.1
  have hPm := hn.2.2.2.1
  rcases q_tb (P := P0) p hn.1 ((fr_n hf).trans hJ.1.2.1) hJ.1.2.1 with ⟨t, ht, rfl, c1, m1⟩ | ⟨c1, m1⟩
  · rcases q_placeOf (M := P0) hf hPm hJ.1.2.2.2.2.1 hJ.2.2.2.2.2.1 (nI t) with ⟨pc, pm, -⟩ | ⟨k, hk, hz, pc, pm⟩
    · rw [hpa] at pm
      refine Or.inr ⟨"java/lang/IllegalStateException", 2, nI 0, cr_pt P0 0 7 (nI 2), ?_, by decide, ?_, R_f hR0 2⟩
      · simp only [s_X8_unplan, s_X8_requireTurbine, cr_clx, ↓pm_m1, pm_lit, c1, pm_cl, pc, ↓reduceIte]
      · simp only [s_X9_unplan, ↓pm_bd, ↓pm_m1, pm_lit, ← hP0, m1, pm_cl, pm, qm_fails, ↓reduceIte]
    · rw [hpa] at pm
      have hkm : ¬ nI k = mI := by rw [pm_ne (by omega)]; exact fun h => h
      obtain ⟨S1, P1, e1, e2, e3, e4, e5, e6, e7, e8⟩ := q_sv hR0
      have hR2 := e7 _ _ (BLK_of (fr_tk hn hf hk) (J_tk hJ hk) hh)
      have hrm := qc_removeAt hPm ((fr_p hf).trans hJ.1.2.2.2.2.1) hk
      have htk : s_X9_takeOff (nI k) P1 = some (cr_pa P1 1 (tk (P0 1) k nP)) := by
        have := qm_takeOff (M := P1) (p := k) hPm (by omega) (by omega) hJ.1.2.2.2.2.1
        rw [e8] at this
        exact this
      refine Or.inl ⟨nI k, _, _, ?_, ?_, ?_, ?_, hR2⟩
      · simp only [s_X8_unplan, s_X8_requireTurbine, cr_clx, ↓pm_bd, ↓pm_m1, pm_lit, c1, pm_cl, pc, hkm, e1, e3, hrm, ↓reduceIte]
      · rw [cr_us_ne _ _ (by omega)]; exact e5
      · simp only [s_X9_unplan, ↓pm_bd, ↓pm_m1, pm_lit, ← hP0, m1, pm_cl, pm, hkm, e2, htk, ↓reduceIte]
      · rw [pm_pan _ _ (by omega), e6]; exact h7
  · refine Or.inr ⟨"java/lang/IndexOutOfBoundsException", 1, nI 0, cr_pt P0 0 7 (nI 1), ?_, by decide, ?_, R_f hR0 1⟩
    · simp only [s_X8_unplan, s_X8_requireTurbine, cr_clx, pm_lit, c1, pm_cl, ↓reduceIte, Bool.false_eq_true]
    · simp only [s_X9_unplan, ↓pm_bd, pm_lit, ← hP0, m1, pm_cl, qm_fails, ↓reduceIte, Bool.false_eq_true]
