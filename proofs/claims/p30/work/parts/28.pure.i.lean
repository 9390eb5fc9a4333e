/-! ### what there is -/
theorem qc_faultCount_4 (G : cr_G) (c : Nat) (hc : c ≤ 10) (h0 : G 0 1 = nI c) : ∀ d k n, c - k = d → d < n → k ≤ c → s_X2_faultCount_4 G n (nI (cnt (fun t => decide (¬ G (t + 15) 3 = nI 0)) k)) (nI k) = some (nI (cnt (fun t => decide (¬ G (t + 15) 3 = nI 0)) c)) := by
  intro d
  induction d with
  | zero =>
    intro k n hd hn hk
    obtain ⟨n, rfl⟩ : ∃ m, n = m + 1 := ⟨n - 1, by omega⟩
    obtain rfl : k = c := by omega
    simp (disch := omega) only [s_X2_faultCount_4, pm_S, h0, pm_C, Nat.le_refl, ↓reduceIte]
  | succ d ih =>
    intro k n hd hn hk
    obtain ⟨n, rfl⟩ : ∃ m, n = m + 1 := ⟨n - 1, by omega⟩
    have hck : ¬ c ≤ k := by omega
    have hi := ih (k + 1) n (by omega) (by omega) (by omega)
    by_cases h1 : G (k + 15) 3 = nI 0
    · rw [cnt_f (by simp [h1])] at hi
      simp (disch := omega) only [s_X2_faultCount_4, ↓pm_bd, pm_gd, pm_lit, pm_S, pm_C, h0, hck, h1, ↓reduceIte]
      exact hi
    · rw [cnt_t (by simp [h1])] at hi
      simp (disch := omega) only [s_X2_faultCount_4, ↓pm_bd, pm_gd, pm_lit, pm_S, pm_C, h0, hck, h1, ↓reduceIte]
      exact hi
theorem qm_faulty_4 (M : cr_G) (Z : Nat → Int32) (c : Nat) (hc : c ≤ 10) (h0 : Z 70 = nI c) (hT : jT c Z) : ∀ d k n, c - k = d → d < n → k ≤ c → s_X9_faulty_4 (cr_pa M 1 Z) n (nI (cnt (fun t => decide (¬ Z (30 + t) = nI 0)) k)) (nI k) = some (nI (cnt (fun t => decide (¬ Z (30 + t) = nI 0)) c)) := by
  intro d
  induction d with
  | zero =>
    intro k n hd hn hk
    obtain ⟨n, rfl⟩ : ∃ m, n = m + 1 := ⟨n - 1, by omega⟩
    obtain rfl : k = c := by omega
    simp (disch := omega) only [s_X9_faulty_4, pm_S, h0, pm_C, Nat.le_refl, ↓reduceIte]
  | succ d ih =>
    intro k n hd hn hk
    obtain ⟨n, rfl⟩ : ∃ m, n = m + 1 := ⟨n - 1, by omega⟩
    have hck : ¬ c ≤ k := by omega
    have hi := ih (k + 1) n (by omega) (by omega) (by omega)
    obtain ⟨f, hf4, hf⟩ := (hT k (by omega)).2.2
    by_cases h1 : f = 0
    · subst h1
      rw [cnt_f (by simp [hf])] at hi
      simp (disch := omega) only [s_X9_faulty_4, ↓pm_bd, pm_gd, pm_lit, pm_S, pm_C, h0, hck, hf, Nat.le_refl, Nat.add_zero, ↓reduceIte]
      exact hi
    · have h2 : ¬ f ≤ 0 := by omega
      have h3 : ¬ nI f = nI 0 := by rw [nI_eq (by omega) (by omega)]; exact h1
      rw [cnt_t (by simp [hf, h3])] at hi
      simp (disch := omega) only [s_X9_faulty_4, ↓pm_bd, pm_gd, pm_lit, pm_S, pm_C, h0, hck, hf, h2, ↓reduceIte]
      exact hi
theorem q_faults {nT nB nL nP nW : Nat} {G M : cr_G} {Z : Nat → Int32} (hf : fr nT nB nL nP nW G Z) (hT : nT ≤ 10) (h70 : Z 70 = nI nT) (hjT : jT nT Z) : ∃ v, s_X2_faultCount G = some v ∧ s_X9_faulty (cr_pa M 1 Z) = some v := by
  refine ⟨nI (cnt (fun t => decide (¬ Z (30 + t) = nI 0)) nT), ?_, ?_⟩
  · have h := qc_faultCount_4 G nT hT ((fr_n hf).trans h70) nT 0 1200 rfl (by omega) (by omega)
    rw [cnt_congr (P := fun t => decide (¬ G (t + 15) 3 = nI 0)) (Q := fun t => decide (¬ Z (30 + t) = nI 0)) (c := nT) (fun k hk => by simp only [fr_t3 hf hk])] at h
    simp only [s_X2_faultCount, pm_lit]
    exact h
  · simp only [s_X9_faulty, pm_lit]
    exact qm_faulty_4 M Z nT hT h70 hjT nT 0 1200 rfl (by omega) (by omega)
theorem qc_lostPower_4 (G : cr_G) : ∀ d k n, 5 - k = d → d < n → k ≤ 5 → s_X2_lostPower_4 G n (sI (G 14) k) (nI k) = some (sI (G 14) 5) := by
  intro d
  induction d with
  | zero =>
    intro k n hd hn hk
    obtain ⟨n, rfl⟩ : ∃ m, n = m + 1 := ⟨n - 1, by omega⟩
    obtain rfl : k = 5 := by omega
    simp (disch := omega) only [s_X2_lostPower_4, pm_lit, pm_C, Nat.le_refl, ↓reduceIte]
  | succ d ih =>
    intro k n hd hn hk
    obtain ⟨n, rfl⟩ : ∃ m, n = m + 1 := ⟨n - 1, by omega⟩
    have hck : ¬ 5 ≤ k := by omega
    have hi := ih (k + 1) n (by omega) (by omega) (by omega)
    simp (disch := omega) only [s_X2_lostPower_4, ↓pm_bd, pm_gd, pm_lit, pm_S, pm_C, hck, ↓reduceIte]
    exact hi
theorem qc_wonPower_4 (G : cr_G) (c : Nat) (hc : c ≤ 10) (h0 : G 0 1 = nI c) : ∀ d k n, c - k = d → d < n → k ≤ c → s_X2_wonPower_4 G n (sI (fun t => G (t + 15) 6) k) (nI k) = some (sI (fun t => G (t + 15) 6) c) := by
  intro d
  induction d with
  | zero =>
    intro k n hd hn hk
    obtain ⟨n, rfl⟩ : ∃ m, n = m + 1 := ⟨n - 1, by omega⟩
    obtain rfl : k = c := by omega
    simp (disch := omega) only [s_X2_wonPower_4, pm_lit, pm_S, h0, pm_C, Nat.le_refl, ↓reduceIte]
  | succ d ih =>
    intro k n hd hn hk
    obtain ⟨n, rfl⟩ : ∃ m, n = m + 1 := ⟨n - 1, by omega⟩
    have hck : ¬ c ≤ k := by omega
    have hi := ih (k + 1) n (by omega) (by omega) (by omega)
    simp (disch := omega) only [s_X2_wonPower_4, ↓pm_bd, pm_gd, pm_lit, pm_S, pm_C, h0, hck, ↓reduceIte]
    exact hi
theorem qm_sum_4 (M : cr_G) (Z : Nat → Int32) (a c : Nat) (ha : a ≤ 100) (hc : c ≤ 10) (h0 : Z 70 = nI c) : ∀ d k n, c - k = d → d < n → k ≤ c → s_X9_sum_4 (cr_pa M 1 Z) n (nI a) (sI (fun t => Z (a + t)) k) (nI k) = some (sI (fun t => Z (a + t)) c) := by
  intro d
  induction d with
  | zero =>
    intro k n hd hn hk
    obtain ⟨n, rfl⟩ : ∃ m, n = m + 1 := ⟨n - 1, by omega⟩
    obtain rfl : k = c := by omega
    simp (disch := omega) only [s_X9_sum_4, pm_lit, pm_S, h0, pm_C, Nat.le_refl, ↓reduceIte]
  | succ d ih =>
    intro k n hd hn hk
    obtain ⟨n, rfl⟩ : ∃ m, n = m + 1 := ⟨n - 1, by omega⟩
    have hck : ¬ c ≤ k := by omega
    have hi := ih (k + 1) n (by omega) (by omega) (by omega)
    simp (disch := omega) only [s_X9_sum_4, ↓pm_bd, pm_gd, pm_lit, pm_S, pm_C, h0, hck, ↓reduceIte]
    exact hi
theorem qm_sum {M : cr_G} {Z : Nat → Int32} {a c : Nat} (ha : a ≤ 100) (hc : c ≤ 10) (h0 : Z 70 = nI c) : s_X9_sum (cr_pa M 1 Z) (nI a) = some (sI (fun t => Z (a + t)) c) := by
  simp only [s_X9_sum, pm_lit]
  exact qm_sum_4 M Z a c ha hc h0 c 0 1200 rfl (by omega) (by omega)
theorem q_lost {nT nB nL nP nW : Nat} {G : cr_G} {Z : Nat → Int32} (hf : fr nT nB nL nP nW G Z) (hQ : jQ nT Z) : s_X2_lostPower G = some (sI (fun t => Z (50 + t)) nT) := by
  have h := qc_lostPower_4 G 5 0 1200 rfl (by omega) (by omega)
  rw [sI_congr (c := 5) (g := fun k => Z (177 + k)) (fun k hk => fr_q hf hk), hQ] at h
  simp only [s_X2_lostPower, pm_lit]
  exact h
theorem q_won {nT nB nL nP nW : Nat} {G : cr_G} {Z : Nat → Int32} (hf : fr nT nB nL nP nW G Z) (hT : nT ≤ 10) (h70 : Z 70 = nI nT) : s_X2_wonPower G = some (sI (fun t => Z (60 + t)) nT) := by
  have h := qc_wonPower_4 G nT hT ((fr_n hf).trans h70) nT 0 1200 rfl (by omega) (by omega)
  rw [sI_congr (c := nT) (g := fun t => Z (60 + t)) (fun k hk => fr_t6 hf hk)] at h
  simp only [s_X2_wonPower, pm_lit]
  exact h
theorem q_placeOf {nT nB nL nP nW : Nat} {G M : cr_G} {Z : Nat → Int32} (hf : fr nT nB nL nP nW G Z) (hP : nP ≤ 10) (h145 : Z 145 = nI nP) (hjP : jP nT nP Z) (x : Int32) : (s_X4_placeOf G x = some mI ∧ s_X9_placeOf (cr_pa M 1 Z) x = some mI ∧ ∀ i, i < nP → Z (146 + i) ≠ x) ∨ ∃ p, p < nP ∧ Z (146 + p) = x ∧ s_X4_placeOf G x = some (nI p) ∧ s_X9_placeOf (cr_pa M 1 Z) x = some (nI p) := by
  have h8 := (fr_p hf).trans h145
  rcases least (P := fun i => Z (146 + i) = x) (fun k => Decidable.em _) nP with hno | ⟨p, hp1, hp2, hp3⟩
  · exact Or.inl ⟨qc_placeOf_no hP h8 (fun i hi => by rw [fr_pr hf hi]; exact hno i hi), qm_placeOf_no hP h145 hno, hno⟩
  · exact Or.inr ⟨p, hp1, hp2, qc_placeOf_at hP h8 hp1 ((fr_pr hf hp1).trans hp2) (fun i hi => by rw [fr_pr hf (by omega)]; exact hp3 i hi), qm_placeOf_at hP h145 hp1 hp2 (fun i hi hne he => hne (hjP.2 i p hi hp1 (he.trans hp2.symm)))⟩
/-- windows -/
theorem q_win_loop {nT nB nL nP nW h t H : Nat} {G M : cr_G} {Z : Nat → Int32} (hf : fr nT nB nL nP nW G Z) (h78 : Z 78 = nI nW) (h182 : Z 182 = nI h) (hn : nW ≤ 48) (hh : h < 1000000) (ht : t < 10) (hH : 1 ≤ H ∧ H ≤ 24) : ∀ (d k n n' r : Nat), 96 + H - k = d → d < n → d < n' → k ≤ 96 + H → r < H → r ≤ k → ∃ v, s_X2_hoursUntilCalm_32 G n (nI H) (Z 71 - Z (10 + t) / nI 25) (nI r) (nI k) = some v ∧ s_X9_windowOf_5 (cr_pa M 1 Z) n' (nI t) (nI H) (nI r) (nI k) = some v := by
  have g09 : G 0 9 = nI h := (fr_h hf).trans h182
  intro d
  induction d with
  | zero =>
    intro k n n' r hd hn1 hn2 hk hr hrk
    obtain ⟨n, rfl⟩ : ∃ m, n = m + 1 := ⟨n - 1, by omega⟩
    obtain ⟨n', rfl⟩ : ∃ m, n' = m + 1 := ⟨n' - 1, by omega⟩
    have hck : 96 + H ≤ k := by omega
    refine ⟨mI, ?_, ?_⟩
    · simp (disch := omega) only [s_X2_hoursUntilCalm_32, ↓pm_m1, pm_lit, pm_S, pm_C, hck, ↓reduceIte]
    · simp (disch := omega) only [s_X9_windowOf_5, ↓pm_m1, pm_lit, pm_S, pm_C, hck, ↓reduceIte]
  | succ d ih =>
    intro k n n' r hd hn1 hn2 hk hr hrk
    obtain ⟨n, rfl⟩ : ∃ m, n = m + 1 := ⟨n - 1, by omega⟩
    obtain ⟨n', rfl⟩ : ∃ m, n' = m + 1 := ⟨n' - 1, by omega⟩
    have hck : ¬ 96 + H ≤ k := by omega
    have hw1 := qc_at hf h78 hn (show h + k < 2 ^ 31 by omega)
    have hw2 := qm_windAt (M := M) (a := h + k) h78 hn (by omega)
    have hlm := qm_limitOf (M := M) (Z := Z) ht
    have go : ∀ r', r' ≤ H → r' ≤ k + 1 → s_X2_hoursUntilCalm_32 G (n + 1) (nI H) (Z 71 - Z (10 + t) / nI 25) (nI r) (nI k) = s_X2_hoursUntilCalm_67 G (fun x2a x3a x4a x5a => s_X2_hoursUntilCalm_32 G n x2a x3a x4a x5a) (nI H) (Z 71 - Z (10 + t) / nI 25) (nI k) (nI r') → s_X9_windowOf_5 (cr_pa M 1 Z) (n' + 1) (nI t) (nI H) (nI r) (nI k) = s_X9_windowOf_44 (cr_pa M 1 Z) (fun x1a x2a x3a x4a => s_X9_windowOf_5 (cr_pa M 1 Z) n' x1a x2a x3a x4a) (nI t) (nI H) (nI k) (nI r') → ∃ v, s_X2_hoursUntilCalm_32 G (n + 1) (nI H) (Z 71 - Z (10 + t) / nI 25) (nI r) (nI k) = some v ∧ s_X9_windowOf_5 (cr_pa M 1 Z) (n' + 1) (nI t) (nI H) (nI r) (nI k) = some v := by
      intro r' hr1 hr2 e1 e2
      rw [e1, e2]
      by_cases e : r' = H
      · subst e
        have hlt : ¬ r' < r' := by omega
        refine ⟨nI (k + 1 - r'), ?_, ?_⟩
        · simp (disch := omega) only [s_X2_hoursUntilCalm_67, pm_lit, pm_S, ↓reduceIte]
        · have e9 : nI k - nI r' + nI 1 = nI (k + 1 - r') := by
            rw [← pk_sub hr2, ← pm_add, Int32.sub_eq_add_neg, Int32.sub_eq_add_neg, Int32.add_assoc, Int32.add_assoc, Int32.add_comm (-nI r')]
          simp (disch := omega) only [s_X9_windowOf_44, pm_lit, pm_C, hlt, e9, ↓reduceIte]
      · have hlt : r' < H := by omega
        obtain ⟨v, v1, v2⟩ := ih (k + 1) n n' r' (by omega) (by omega) (by omega) (by omega) hlt hr2
        refine ⟨v, ?_, ?_⟩
        · simp (disch := omega) only [s_X2_hoursUntilCalm_67, ↓pm_bd, pm_lit, pm_S, pm_C, e, ↓reduceIte]
          exact v1
        · simp (disch := omega) only [s_X9_windowOf_44, ↓pm_bd, pm_lit, pm_S, pm_C, hlt, ↓reduceIte]
          exact v2
    by_cases e : Z 71 - Z (10 + t) / nI 25 < wv Z nW (h + k)
    · refine go 0 (by omega) (by omega) ?_ ?_
      · simp (disch := omega) only [s_X2_hoursUntilCalm_32, pm_lit, pm_S, pm_C, hck, g09, hw1, pm_cl, e, ↓reduceIte]
      · simp (disch := omega) only [s_X9_windowOf_5, pm_lit, pm_S, pm_C, hck, h182, hw2, hlm, pm_cl, e, ↓reduceIte]
    · refine go (r + 1) (by omega) (by omega) ?_ ?_
      · simp (disch := omega) only [s_X2_hoursUntilCalm_32, pm_lit, pm_S, pm_C, hck, g09, hw1, pm_cl, e, ↓reduceIte]
      · simp (disch := omega) only [s_X9_windowOf_5, pm_lit, pm_S, pm_C, hck, h182, hw2, hlm, pm_cl, e, ↓reduceIte]
theorem q_window {nT nB nL nP nW h g t H : Nat} {G M : cr_G} {Z : Nat → Int32} (hf : fr nT nB nL nP nW G Z) (hJ : J nT nB nL nP nW h g Z) (hh : h < 1000000) (ht : t < nT) (hH : 1 ≤ H ∧ H ≤ 24) : ∃ v, s_X2_hoursUntilCalm G (nI t) (nI H) = some v ∧ s_X9_windowOf (cr_pa M 1 Z) (nI t) (nI H) = some v := by
  have hn := hJ.1.1
  have hT := hn.1
  obtain ⟨v, v1, v2⟩ := q_win_loop (M := M) hf hJ.1.2.2.2.2.2.1 hJ.1.2.2.2.2.2.2 hn.2.2.2.2 hh (show t < 10 by omega) hH (96 + H) 0 1200 1200 0 rfl (by omega) (by omega) (by omega) (by omega) (by omega)
  refine ⟨v, ?_, ?_⟩
  · simp (disch := omega) only [s_X2_hoursUntilCalm, ↓pm_bd, pm_lit, qc_has ((fr_n hf).trans hJ.1.2.1) hT ht, pm_cl, pm_S, pm_gd, qc_limit hf ht, ↓reduceIte]
    exact v1
  · simp only [s_X9_windowOf, pm_lit]
    exact v2
theorem q_prop {nT nB nL nP nW h g t : Nat} {G M : cr_G} {Z : Nat → Int32} (hf : fr nT nB nL nP nW G Z) (hJ : J nT nB nL nP nW h g Z) (hh : h < 1000000) (ht : t < nT) (p : Int32) : ∃ v, s_X2_turbineProperty G (nI t) p = some v ∧ s_X9_turbineNow (cr_pa M 1 Z) (nI t) p = some v := by
  have hn := hJ.1.1
  have hT := hn.1
  have hL := hn.2.2.1
  have hP := hn.2.2.2.1
  have hW := hn.2.2.2.2
  have ht10 : t < 10 := by omega
  have hhas := qc_has ((fr_n hf).trans hJ.1.2.1) hT ht
  have hlc := qc_limit hf ht
  have hlm := qm_limitOf (M := M) (Z := Z) ht10
  have hu := qc_unloadedFor (G := G) (nI t) hL ((fr_l hf).trans hJ.1.2.2.2.1)
  have hcz : cnt (mtb (G 6) (G 7) (nI t)) nL = cnt (mzb Z (nI t)) nL := cnt_congr (fun k hk => by simp only [mzb, mtb, fr_lw hf hk, fr_lg hf hk])
  rw [hcz] at hu
  have ha := qm_ashore (M := M) (Z := Z) (nI t) hL hJ.1.2.2.2.1
  obtain ⟨pv, pc, pm⟩ : ∃ v, s_X4_placeOf G (nI t) = some v ∧ s_X9_placeOf (cr_pa M 1 Z) (nI t) = some v := by
    rcases q_placeOf (M := M) hf hP hJ.1.2.2.2.2.1 hJ.2.2.2.2.2.1 (nI t) with ⟨a, b, -⟩ | ⟨q, -, -, a, b⟩
    · exact ⟨_, a, b⟩
    · exact ⟨_, a, b⟩
  obtain ⟨x, hx, hwx⟩ := wv_bd (a := h) hJ.2.2.2.2.2.2.2.2.1
  have hw1 := qc_at hf hJ.1.2.2.2.2.2.1 hW (show h < 2 ^ 31 by omega)
  have hw2 := qm_windAt (M := M) (a := h) hJ.1.2.2.2.2.2.1 hW (by omega)
  rw [hwx] at hw1 hw2
  obtain ⟨-, ⟨r, hr, hzr⟩, -⟩ := hJ.2.2.1 t ht
  have f1 := qc_full (t := t) hr hx ((fr_t2 hf ht).trans hzr)
  have f2 := qm_full (M := M) (Z := Z) ht10 hr hx hzr
  have g09 : G 0 9 = nI h := (fr_h hf).trans hJ.1.2.2.2.2.2.2
  have z182 := hJ.1.2.2.2.2.2.2
  by_cases n0 : p = nI 0
  · subst n0
    refine ⟨Z t, ?_, ?_⟩
    rotate_left
    · simp +decide (disch := omega) only [s_X9_turbineNow, pm_lit, pm_S, pm_gd, pm_C, Nat.zero_add, fr_t0 hf ht, pm_cl, ↓reduceIte]
    · simp +decide (disch := omega) only [s_X2_turbineProperty, ↓pm_bd, pm_lit, hhas, pm_S, pm_gd, pm_C, fr_t0 hf ht, pm_cl, ↓reduceIte]
  by_cases n1 : p = nI 1
  · subst n1
    refine ⟨Z (10 + t), ?_, ?_⟩
    rotate_left
    · simp +decide (disch := omega) only [s_X9_turbineNow, pm_lit, pm_S, pm_gd, pm_C, Nat.zero_add, fr_t1 hf ht, pm_cl, ↓reduceIte]
    · simp +decide (disch := omega) only [s_X2_turbineProperty, ↓pm_bd, pm_lit, hhas, pm_S, pm_gd, pm_C, fr_t1 hf ht, pm_cl, ↓reduceIte]
  by_cases n2 : p = nI 2
  · subst n2
    refine ⟨Z (20 + t), ?_, ?_⟩
    rotate_left
    · simp +decide (disch := omega) only [s_X9_turbineNow, pm_lit, pm_S, pm_gd, pm_C, Nat.zero_add, fr_t2 hf ht, pm_cl, ↓reduceIte]
    · simp +decide (disch := omega) only [s_X2_turbineProperty, ↓pm_bd, pm_lit, hhas, pm_S, pm_gd, pm_C, fr_t2 hf ht, pm_cl, ↓reduceIte]
  by_cases n3 : p = nI 3
  · subst n3
    refine ⟨Z (30 + t), ?_, ?_⟩
    rotate_left
    · simp +decide (disch := omega) only [s_X9_turbineNow, pm_lit, pm_S, pm_gd, pm_C, Nat.zero_add, fr_t3 hf ht, pm_cl, ↓reduceIte]
    · simp +decide (disch := omega) only [s_X2_turbineProperty, ↓pm_bd, pm_lit, hhas, pm_S, pm_gd, pm_C, fr_t3 hf ht, pm_cl, ↓reduceIte]
  by_cases n4 : p = nI 4
  · subst n4
    refine ⟨Z (40 + t), ?_, ?_⟩
    rotate_left
    · simp +decide (disch := omega) only [s_X9_turbineNow, pm_lit, pm_S, pm_gd, pm_C, Nat.zero_add, fr_t4 hf ht, pm_cl, ↓reduceIte]
    · simp +decide (disch := omega) only [s_X2_turbineProperty, ↓pm_bd, pm_lit, hhas, pm_S, pm_gd, pm_C, fr_t4 hf ht, pm_cl, ↓reduceIte]
  by_cases n5 : p = nI 5
  · subst n5
    refine ⟨Z 71 - Z (10 + t) / nI 25, ?_, ?_⟩
    rotate_left
    · simp +decide (disch := omega) only [s_X9_turbineNow, pm_lit, pm_S, pm_gd, pm_C, Nat.zero_add, hlc, hlm, pm_cl, ↓reduceIte]
    · simp +decide (disch := omega) only [s_X2_turbineProperty, ↓pm_bd, pm_lit, hhas, pm_S, pm_gd, pm_C, hlc, hlm, pm_cl, ↓reduceIte]
  by_cases n6 : p = nI 6
  · subst n6
    refine ⟨pv, ?_, ?_⟩
    rotate_left
    · simp +decide (disch := omega) only [s_X9_turbineNow, pm_lit, pm_S, pm_gd, pm_C, Nat.zero_add, pc, pm, pm_cl, ↓reduceIte]
    · simp +decide (disch := omega) only [s_X2_turbineProperty, ↓pm_bd, pm_lit, hhas, pm_S, pm_gd, pm_C, pc, pm, pm_cl, ↓reduceIte]
  by_cases n7 : p = nI 7
  · subst n7
    refine ⟨nI (cnt (mzb Z (nI t)) nL), ?_, ?_⟩
    rotate_left
    · simp +decide (disch := omega) only [s_X9_turbineNow, pm_lit, pm_S, pm_gd, pm_C, Nat.zero_add, hu, ha, pm_cl, ↓reduceIte]
    · simp +decide (disch := omega) only [s_X2_turbineProperty, ↓pm_bd, pm_lit, hhas, pm_S, pm_gd, pm_C, hu, ha, pm_cl, ↓reduceIte]
  by_cases n8 : p = nI 8
  · subst n8
    refine ⟨Z (50 + t), ?_, ?_⟩
    rotate_left
    · simp +decide (disch := omega) only [s_X9_turbineNow, pm_lit, pm_S, pm_gd, pm_C, Nat.zero_add, fr_t5 hf ht, pm_cl, ↓reduceIte]
    · simp +decide (disch := omega) only [s_X2_turbineProperty, ↓pm_bd, pm_lit, hhas, pm_S, pm_gd, pm_C, fr_t5 hf ht, pm_cl, ↓reduceIte]
  by_cases n9 : p = nI 9
  · subst n9
    refine ⟨Z (60 + t), ?_, ?_⟩
    rotate_left
    · simp +decide (disch := omega) only [s_X9_turbineNow, pm_lit, pm_S, pm_gd, pm_C, Nat.zero_add, fr_t6 hf ht, pm_cl, ↓reduceIte]
    · simp +decide (disch := omega) only [s_X2_turbineProperty, ↓pm_bd, pm_lit, hhas, pm_S, pm_gd, pm_C, fr_t6 hf ht, pm_cl, ↓reduceIte]
  · refine ⟨nI (fw r x), ?_, ?_⟩
    · simp +decide (disch := omega) only [s_X2_turbineProperty, s_X2_windNow, ↓pm_bd, pm_lit, hhas, pm_S, pm_gd, n0, n1, n2, n3, n4, n5, n6, n7, n8, n9, g09, hw1, f1, pm_cl, ↓reduceIte]
    · simp +decide (disch := omega) only [s_X9_turbineNow, pm_lit, pm_pa, n0, n1, n2, n3, n4, n5, n6, n7, n8, n9, z182, hw2, f2, pm_cl, ↓reduceIte]
theorem q_told {nT nB nL nP nW h g a : Nat} {G M : cr_G} {Z : Nat → Int32} (hf : fr nT nB nL nP nW G Z) (hJ : J nT nB nL nP nW h g Z) (ha : a ≤ 8) : ∃ v, s_X2_outcome G (nI a) = some v ∧ s_X9_told (cr_pa M 1 Z) (nI a) = some v := by
  have hn := hJ.1.1
  have hT := hn.1
  have h70 := hJ.1.2.1
  obtain ⟨fv, fc, fm⟩ := q_faults (M := M) hf hT h70 hJ.2.2.1
  have l1 := q_lost hf hJ.2.2.2.2.1
  have l2 := qm_sum (M := M) (a := 50) (by omega) hT h70
  have w1 := q_won hf hT h70
  have w2 := qm_sum (M := M) (a := 60) (by omega) hT h70
  by_cases e5 : a < 5
  · have n5 : ¬ 5 ≤ a := by omega
    have n6 : ¬ a = 5 := by omega
    have n7 : ¬ a = 6 := by omega
    have n8 : ¬ a = 7 := by omega
    have n9 : ¬ a = 8 := by omega
    have n0 : ¬ a < 0 := by omega
    refine ⟨Z (177 + a), ?_, ?_⟩
    · simp +decide (disch := omega) only [s_X2_outcome, pm_lit, pm_S, pm_gd, pm_C, n5, n6, n7, n8, n9, n0, fr_q hf e5, ↓reduceIte]
    · simp +decide (disch := omega) only [s_X9_told, pm_lit, pm_S, pm_gd, pm_C, n5, ↓reduceIte]
  · have e : a = 5 ∨ a = 6 ∨ a = 7 ∨ a = 8 := by omega
    rcases e with rfl | rfl | rfl | rfl
    · refine ⟨sI (fun t => Z (50 + t)) nT, ?_, ?_⟩
      rotate_left
      · simp +decide (disch := omega) only [s_X9_told, pm_lit, pm_C, Nat.le_refl, l2, pm_cl, ↓reduceIte]
      · simp +decide (disch := omega) only [s_X2_outcome, pm_lit, l1, pm_cl, ↓reduceIte]
    · refine ⟨sI (fun t => Z (60 + t)) nT, ?_, ?_⟩
      rotate_left
      · simp +decide (disch := omega) only [s_X9_told, pm_lit, pm_C, w2, pm_cl, ↓reduceIte]
      · simp +decide (disch := omega) only [s_X2_outcome, pm_lit, pm_C, w1, pm_cl, ↓reduceIte]
    · refine ⟨fv, ?_, ?_⟩
      · simp +decide (disch := omega) only [s_X2_outcome, pm_lit, pm_C, fc, pm_cl, ↓reduceIte]
      · simp +decide (disch := omega) only [s_X9_told, pm_lit, pm_C, fm, pm_cl, ↓reduceIte]
    · refine ⟨Z 145, ?_, ?_⟩
      · simp +decide (disch := omega) only [s_X2_outcome, pm_lit, pm_C, fr_p hf, ↓reduceIte]
      · simp +decide (disch := omega) only [s_X9_told, pm_lit, pm_pa, pm_C, ↓reduceIte]
theorem q_counted {nT nB nL nP nW h g : Nat} {S : cr_S} {M : cr_G} {Z : Nat → Int32} (hf : fr nT nB nL nP nW (S.1 0) Z) (hJ : J nT nB nL nP nW h g Z) (hh : h < 1000000) (hs : S.1 8 0 4 = M 0 5) (p : Int32) : ∃ v, s_X8_numberOf S p = some v ∧ s_X9_counted (cr_pa M 1 Z) p = some v := by
  have hn := hJ.1.1
  have hT := hn.1
  have hP := hn.2.2.2.1
  have hW := hn.2.2.2.2
  have h70 := hJ.1.2.1
  have h145 := hJ.1.2.2.2.2.1
  obtain ⟨fv, fc, fm⟩ := q_faults (M := M) hf hT h70 hJ.2.2.1
  have l1 := q_lost hf hJ.2.2.2.2.1
  have l2 := qm_sum (M := M) (a := 50) (by omega) hT h70
  have w1 := q_won hf hT h70
  have w2 := qm_sum (M := M) (a := 60) (by omega) hT h70
  have hw1 := qc_at hf hJ.1.2.2.2.2.2.1 hW (show h < 2 ^ 31 by omega)
  have hw2 := qm_windAt (M := M) (a := h) hJ.1.2.2.2.2.2.1 hW (by omega)
  have g09 : S.1 0 0 9 = nI h := (fr_h hf).trans hJ.1.2.2.2.2.2.2
  have z182 := hJ.1.2.2.2.2.2.2
  have hfi := qc_first hP ((fr_p hf).trans h145)
  have hK := hJ.2.2.2.2.2.2.1
  by_cases n0 : p = nI 0
  · subst n0
    refine ⟨Z 70, ?_, ?_⟩
    rotate_left
    · simp +decide (disch := omega) only [s_X9_counted, pm_lit, pm_C, pm_pa, ↓reduceIte]
    · simp +decide (disch := omega) only [s_X8_numberOf, pm_lit, pm_C, fr_n hf, ↓reduceIte]
  by_cases n1 : p = nI 1
  · subst n1
    refine ⟨fv, ?_, ?_⟩
    rotate_left
    · simp +decide (disch := omega) only [s_X9_counted, pm_lit, pm_C, fm, pm_cl, ↓reduceIte]
    · simp +decide (disch := omega) only [s_X8_numberOf, pm_lit, pm_C, fc, pm_cl, ↓reduceIte]
  by_cases n2 : p = nI 2
  · subst n2
    refine ⟨Z 182, ?_, ?_⟩
    rotate_left
    · simp +decide (disch := omega) only [s_X9_counted, pm_lit, pm_C, pm_pa, ↓reduceIte]
    · simp +decide (disch := omega) only [s_X8_numberOf, pm_lit, pm_C, fr_h hf, ↓reduceIte]
  by_cases n3 : p = nI 3
  · subst n3
    refine ⟨wv Z nW h, ?_, ?_⟩
    rotate_left
    · simp +decide (disch := omega) only [s_X9_counted, pm_lit, pm_C, pm_pa, z182, hw2, pm_cl, ↓reduceIte]
    · simp +decide (disch := omega) only [s_X8_numberOf, pm_lit, pm_C, s_X2_windNow, g09, hw1, pm_cl, ↓reduceIte]
  by_cases n4 : p = nI 4
  · subst n4
    refine ⟨Z 78, ?_, ?_⟩
    rotate_left
    · simp +decide (disch := omega) only [s_X9_counted, pm_lit, pm_C, pm_pa, ↓reduceIte]
    · simp +decide (disch := omega) only [s_X8_numberOf, pm_lit, pm_C, fr_w hf, ↓reduceIte]
  by_cases n5 : p = nI 5
  · subst n5
    refine ⟨Z 145, ?_, ?_⟩
    rotate_left
    · simp +decide (disch := omega) only [s_X9_counted, pm_lit, pm_C, pm_pa, ↓reduceIte]
    · simp +decide (disch := omega) only [s_X8_numberOf, pm_lit, pm_C, fr_p hf, ↓reduceIte]
  by_cases n6 : p = nI 6
  · subst n6
    by_cases e0 : nP = 0
    · refine ⟨mI, ?_, ?_⟩
      · simp +decide (disch := omega) only [s_X8_numberOf, pm_lit, pm_C, hfi, e0, pm_cl, ↓reduceIte]
      · simp +decide (disch := omega) only [s_X9_counted, ↓pm_m1, pm_lit, pm_C, pm_pa, h145, e0, ↓reduceIte]
    · refine ⟨Z 146, ?_, ?_⟩
      · simp +decide (disch := omega) only [s_X8_numberOf, pm_lit, pm_C, hfi, e0, pm_cl, fr_pr hf (show 0 < nP by omega), ↓reduceIte]
      · simp +decide (disch := omega) only [s_X9_counted, ↓pm_m1, pm_lit, pm_C, pm_pa, h145, e0, ↓reduceIte]
  by_cases n7 : p = nI 7
  · subst n7
    refine ⟨Z 140, ?_, ?_⟩
    rotate_left
    · simp +decide (disch := omega) only [s_X9_counted, pm_lit, pm_C, pm_pa, ↓reduceIte]
    · simp +decide (disch := omega) only [s_X8_numberOf, pm_lit, pm_C, fr_c0 hf, ↓reduceIte]
  by_cases n8 : p = nI 8
  · subst n8
    refine ⟨Z 142, ?_, ?_⟩
    · simp +decide (disch := omega) only [s_X8_numberOf, pm_lit, pm_C, fr_c1 hf, ↓reduceIte]
    · rcases hK.2.1 with ⟨e1, e2⟩ | ⟨e1, -⟩
      · simp +decide (disch := omega) only [s_X9_counted, ↓pm_m1, pm_lit, pm_C, pm_pa, e1, e2, ↓reduceIte]
      · simp +decide (disch := omega) only [s_X9_counted, ↓pm_m1, pm_lit, pm_C, pm_pa, e1, ↓reduceIte]
  by_cases n9 : p = nI 9
  · subst n9
    refine ⟨Z 141, ?_, ?_⟩
    rotate_left
    · simp +decide (disch := omega) only [s_X9_counted, pm_lit, pm_C, pm_pa, ↓reduceIte]
    · simp +decide (disch := omega) only [s_X8_numberOf, pm_lit, pm_C, fr_c2 hf, ↓reduceIte]
  by_cases n10 : p = nI 10
  · subst n10
    by_cases e0 : nP = 0
    · refine ⟨nI 0, ?_, ?_⟩
      · by_cases e1 : mI = Z 144
        · have e2 := hK.2.2 e1.symm
          simp +decide (disch := omega) only [s_X8_numberOf, s_X1_workOn, pm_lit, pm_C, hfi, e0, pm_cl, fr_c4 hf, fr_c3 hf, eq_true e1, e2, ↓reduceIte]
        · simp +decide (disch := omega) only [s_X8_numberOf, s_X1_workOn, pm_lit, pm_C, hfi, e0, pm_cl, fr_c4 hf, e1, ↓reduceIte]
      · simp +decide (disch := omega) only [s_X9_counted, pm_lit, pm_C, pm_pa, h145, e0, Nat.le_refl, ↓reduceIte]
    · have e9 : ¬ nP ≤ 0 := by omega
      by_cases e1 : Z 146 = Z 144
      · refine ⟨Z 143, ?_, ?_⟩
        · simp +decide (disch := omega) only [s_X8_numberOf, s_X1_workOn, pm_lit, pm_C, hfi, e0, pm_cl, fr_pr hf (show 0 < nP by omega), fr_c4 hf, fr_c3 hf, e1, ↓reduceIte]
        · simp +decide (disch := omega) only [s_X9_counted, pm_lit, pm_C, pm_pa, h145, e9, e1, ↓reduceIte]
      · refine ⟨nI 0, ?_, ?_⟩
        · simp +decide (disch := omega) only [s_X8_numberOf, s_X1_workOn, pm_lit, pm_C, hfi, e0, pm_cl, fr_pr hf (show 0 < nP by omega), fr_c4 hf, e1, ↓reduceIte]
        · simp +decide (disch := omega) only [s_X9_counted, pm_lit, pm_C, pm_pa, h145, e9, e1, ↓reduceIte]
  by_cases n11 : p = nI 11
  · subst n11
    refine ⟨sI (fun t => Z (50 + t)) nT, ?_, ?_⟩
    rotate_left
    · simp +decide (disch := omega) only [s_X9_counted, pm_lit, pm_C, l2, pm_cl, ↓reduceIte]
    · simp +decide (disch := omega) only [s_X8_numberOf, pm_lit, pm_C, l1, pm_cl, ↓reduceIte]
  by_cases n12 : p = nI 12
  · subst n12
    refine ⟨sI (fun t => Z (60 + t)) nT, ?_, ?_⟩
    rotate_left
    · simp +decide (disch := omega) only [s_X9_counted, pm_lit, pm_C, w2, pm_cl, ↓reduceIte]
    · simp +decide (disch := omega) only [s_X8_numberOf, pm_lit, pm_C, w1, pm_cl, ↓reduceIte]
  by_cases n13 : p = nI 13
  · subst n13
    refine ⟨Z 156, ?_, ?_⟩
    rotate_left
    · simp +decide (disch := omega) only [s_X9_counted, pm_lit, pm_C, pm_pa, ↓reduceIte]
    · simp +decide (disch := omega) only [s_X8_numberOf, pm_lit, pm_C, fr_l hf, ↓reduceIte]
  · refine ⟨M 0 5, ?_, ?_⟩
    · simp only [s_X8_numberOf, pm_lit, n0, n1, n2, n3, n4, n5, n6, n7, n8, n9, n10, n11, n12, n13, hs, ↓reduceIte]
    · simp +decide (disch := omega) only [s_X9_counted, pm_lit, n0, n1, n2, n3, n4, n5, n6, n7, n8, n9, n10, n11, n12, n13, pm_pan, ↓reduceIte]
