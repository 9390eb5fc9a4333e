/-! ### what the class answers, in the words of the row Z -/
theorem c_wi {n lo hi : Nat} (h1 : lo ≤ n) (h2 : n ≤ hi) (h3 : hi < 2 ^ 31) : s_X8_isWithin (nI n) (nI lo) (nI hi) = some true := by
  have e1 : ¬ n < lo := by omega
  have e2 : ¬ hi < n := by omega
  simp (disch := omega) only [s_X8_isWithin, pm_C, e1, e2, ↓reduceIte]
theorem c_turbine {S : cr_S} {nT t k : Nat} {v : Int32} (h0 : S.1 0 0 1 = nI nT) (hT : nT ≤ 10) (ht : t < nT) (hk : k ≤ 10) (hv : s_X2_turbineProperty (S.1 0) (nI t) (nI k) = some v) : t_X8_turbine S (nI t) (nI k) = some v := by
  have w := c_wi (n := k) (lo := 0) (hi := 10) (by omega) hk (by omega)
  simp only [t_X8_turbine, t_X8_requireTurbine, pm_lit, qc_has h0 hT ht, pm_cl, w, hv, ↓reduceIte]
theorem c_blade {S : cr_S} {nL b : Nat} (h5 : S.1 0 5 2 = nI nL) (hL : nL ≤ 10) (hb : b < nL) : t_X8_blade S (nI b) (nI 0) = some (S.1 0 6 b) ∧ t_X8_blade S (nI b) (nI 1) = some (S.1 0 7 b) := by
  have w1 := c_wi (n := b) (lo := 0) (hi := nL - 1) (by omega) (by omega) (by omega)
  have w2 := c_wi (n := 0) (lo := 0) (hi := 1) (by omega) (by omega) (by omega)
  have w3 := c_wi (n := 1) (lo := 0) (hi := 1) (by omega) (by omega) (by omega)
  refine ⟨?_, ?_⟩
  · simp +decide (disch := omega) only [t_X8_blade, pm_lit, h5, pm_S, w1, pm_cl, w2, pm_gd, ↓reduceIte]
  · simp +decide (disch := omega) only [t_X8_blade, pm_lit, h5, pm_S, w1, pm_cl, w3, pm_gd, pm_C, ↓reduceIte]
theorem c_bog {S : cr_S} {nL b : Nat} (h5 : S.1 0 2 2 = nI nL) (hL : nL ≤ 6) (hb : b < nL) : t_X8_bog S (nI b) (nI 0) = some (S.1 0 3 b) ∧ t_X8_bog S (nI b) (nI 1) = some (S.1 0 4 b) := by
  have w1 := c_wi (n := b) (lo := 0) (hi := nL - 1) (by omega) (by omega) (by omega)
  have w2 := c_wi (n := 0) (lo := 0) (hi := 1) (by omega) (by omega) (by omega)
  have w3 := c_wi (n := 1) (lo := 0) (hi := 1) (by omega) (by omega) (by omega)
  refine ⟨?_, ?_⟩
  · simp +decide (disch := omega) only [t_X8_bog, pm_lit, h5, pm_S, w1, pm_cl, w2, pm_gd, ↓reduceIte]
  · simp +decide (disch := omega) only [t_X8_bog, pm_lit, h5, pm_S, w1, pm_cl, w3, pm_gd, pm_C, ↓reduceIte]
theorem c_claims {S : cr_S} {k : Nat} (hk : k < 5) : t_X8_claims S (nI k) = some (S.1 0 14 k) := by
  have w1 := c_wi (n := k) (lo := 0) (hi := 4) (by omega) (by omega) (by omega)
  simp (disch := omega) only [t_X8_claims, pm_lit, pm_S, w1, pm_cl, pm_gd, ↓reduceIte]
theorem c_setting {S : cr_S} {k : Nat} (hk : k < 7) : t_X8_setting S (nI k) = some (S.1 0 13 k) := by
  have w1 := c_wi (n := k) (lo := 0) (hi := 6) (by omega) (by omega) (by omega)
  simp (disch := omega) only [t_X8_setting, t_X8_requireSetting, pm_lit, pm_S, w1, pm_cl, pm_gd, ↓reduceIte]
theorem c_count {S : cr_S} {k : Nat} {v : Int32} (hk : k ≤ 14) (hv : s_X8_numberOf S (nI k) = some v) : t_X8_count S (nI k) = some v := by
  have w1 := c_wi (n := k) (lo := 0) (hi := 14) (by omega) (by omega) (by omega)
  simp (disch := omega) only [t_X8_count, pm_lit, w1, pm_cl, hv, ↓reduceIte]
/-! a turbine's properties -/
theorem c_props {nT nB nL nP nW h g t : Nat} {S : cr_S} {Z : Nat → Int32} (hf : fr nT nB nL nP nW (S.1 0) Z) (hJ : J nT nB nL nP nW h g Z) (hh : h < 1000000) (ht : t < nT) : t_X8_turbine S (nI t) (nI 0) = some (Z t) ∧ t_X8_turbine S (nI t) (nI 1) = some (Z (10 + t)) ∧ t_X8_turbine S (nI t) (nI 2) = some (Z (20 + t)) ∧ t_X8_turbine S (nI t) (nI 3) = some (Z (30 + t)) ∧ t_X8_turbine S (nI t) (nI 4) = some (Z (40 + t)) ∧ t_X8_turbine S (nI t) (nI 5) = some (Z 71 - Z (10 + t) / nI 25) ∧ t_X8_turbine S (nI t) (nI 7) = some (nI (cnt (mzb Z (nI t)) nL)) ∧ t_X8_turbine S (nI t) (nI 8) = some (Z (50 + t)) ∧ t_X8_turbine S (nI t) (nI 9) = some (Z (60 + t)) ∧ (∀ v, s_X4_placeOf (S.1 0) (nI t) = some v → t_X8_turbine S (nI t) (nI 6) = some v) ∧ ∀ r x, r ≤ 50 → x ≤ 99 → Z (20 + t) = nI r → wv Z nW h = nI x → t_X8_turbine S (nI t) (nI 10) = some (nI (fw r x)) := by
  have hn := hJ.1.1
  have hT := hn.1
  have hL := hn.2.2.1
  have hW := hn.2.2.2.2
  have h01 := (fr_n hf).trans hJ.1.2.1
  have hhas := qc_has h01 hT ht
  have hlc := qc_limit hf ht
  have hu := qc_unloadedFor (G := S.1 0) (nI t) hL ((fr_l hf).trans hJ.1.2.2.2.1)
  have hcz : cnt (mtb (S.1 0 6) (S.1 0 7) (nI t)) nL = cnt (mzb Z (nI t)) nL := cnt_congr (fun k hk => by simp only [mzb, mtb, fr_lw hf hk, fr_lg hf hk])
  rw [hcz] at hu
  have hw1 := qc_at hf hJ.1.2.2.2.2.2.1 hW (show h < 2 ^ 31 by omega)
  have g09 : S.1 0 0 9 = nI h := (fr_h hf).trans hJ.1.2.2.2.2.2.2
  refine ⟨c_turbine h01 hT ht (by omega) ?_, c_turbine h01 hT ht (by omega) ?_, c_turbine h01 hT ht (by omega) ?_, c_turbine h01 hT ht (by omega) ?_, c_turbine h01 hT ht (by omega) ?_, c_turbine h01 hT ht (by omega) ?_, c_turbine h01 hT ht (by omega) ?_, c_turbine h01 hT ht (by omega) ?_, c_turbine h01 hT ht (by omega) ?_, fun v hv => c_turbine h01 hT ht (by omega) ?_, fun r x hr hx hz hwx => c_turbine h01 hT ht (by omega) ?_⟩
  · simp +decide (disch := omega) only [s_X2_turbineProperty, ↓pm_bd, pm_lit, hhas, pm_S, pm_gd, pm_C, fr_t0 hf ht, pm_cl, ↓reduceIte]
  · simp +decide (disch := omega) only [s_X2_turbineProperty, ↓pm_bd, pm_lit, hhas, pm_S, pm_gd, pm_C, fr_t1 hf ht, pm_cl, ↓reduceIte]
  · simp +decide (disch := omega) only [s_X2_turbineProperty, ↓pm_bd, pm_lit, hhas, pm_S, pm_gd, pm_C, fr_t2 hf ht, pm_cl, ↓reduceIte]
  · simp +decide (disch := omega) only [s_X2_turbineProperty, ↓pm_bd, pm_lit, hhas, pm_S, pm_gd, pm_C, fr_t3 hf ht, pm_cl, ↓reduceIte]
  · simp +decide (disch := omega) only [s_X2_turbineProperty, ↓pm_bd, pm_lit, hhas, pm_S, pm_gd, pm_C, fr_t4 hf ht, pm_cl, ↓reduceIte]
  · simp +decide (disch := omega) only [s_X2_turbineProperty, ↓pm_bd, pm_lit, hhas, pm_S, pm_gd, pm_C, hlc, pm_cl, ↓reduceIte]
  · simp +decide (disch := omega) only [s_X2_turbineProperty, ↓pm_bd, pm_lit, hhas, pm_S, pm_gd, pm_C, hu, pm_cl, ↓reduceIte]
  · simp +decide (disch := omega) only [s_X2_turbineProperty, ↓pm_bd, pm_lit, hhas, pm_S, pm_gd, pm_C, fr_t5 hf ht, pm_cl, ↓reduceIte]
  · simp +decide (disch := omega) only [s_X2_turbineProperty, ↓pm_bd, pm_lit, hhas, pm_S, pm_gd, pm_C, fr_t6 hf ht, pm_cl, ↓reduceIte]
  · simp +decide (disch := omega) only [s_X2_turbineProperty, ↓pm_bd, pm_lit, hhas, pm_S, pm_gd, pm_C, hv, pm_cl, ↓reduceIte]
  · have f1 := qc_full (t := t) hr hx ((fr_t2 hf ht).trans hz)
    rw [hwx] at hw1
    simp +decide (disch := omega) only [s_X2_turbineProperty, s_X2_windNow, ↓pm_bd, pm_lit, hhas, pm_S, pm_gd, pm_C, g09, hw1, f1, pm_cl, ↓reduceIte]
/-! the counts -/
theorem c_faults {nT nB nL nP nW : Nat} {G : cr_G} {Z : Nat → Int32} (hf : fr nT nB nL nP nW G Z) (hT : nT ≤ 10) (h70 : Z 70 = nI nT) : s_X2_faultCount G = some (nI (cnt (fun t => decide (¬ Z (30 + t) = nI 0)) nT)) := by
  have h := qc_faultCount_4 G nT hT ((fr_n hf).trans h70) nT 0 1200 rfl (by omega) (by omega)
  rw [cnt_congr (P := fun t => decide (¬ G (t + 15) 3 = nI 0)) (Q := fun t => decide (¬ Z (30 + t) = nI 0)) (c := nT) (fun k hk => by simp only [fr_t3 hf hk])] at h
  simp only [s_X2_faultCount, pm_lit]
  exact h
theorem c_counts {nT nB nL nP nW h g : Nat} {S : cr_S} {Z : Nat → Int32} (hf : fr nT nB nL nP nW (S.1 0) Z) (hJ : J nT nB nL nP nW h g Z) (hh : h < 1000000) : t_X8_count S (nI 0) = some (Z 70) ∧ t_X8_count S (nI 1) = some (nI (cnt (fun t => decide (¬ Z (30 + t) = nI 0)) nT)) ∧ t_X8_count S (nI 2) = some (Z 182) ∧ t_X8_count S (nI 3) = some (wv Z nW h) ∧ t_X8_count S (nI 4) = some (Z 78) ∧ t_X8_count S (nI 5) = some (Z 145) ∧ t_X8_count S (nI 6) = some (if nP = 0 then mI else Z 146) ∧ t_X8_count S (nI 7) = some (Z 140) ∧ t_X8_count S (nI 8) = some (Z 142) ∧ t_X8_count S (nI 9) = some (Z 141) ∧ t_X8_count S (nI 10) = some (if nP = 0 then nI 0 else if Z 146 = Z 144 then Z 143 else nI 0) ∧ t_X8_count S (nI 11) = some (sI (fun t => Z (50 + t)) nT) ∧ t_X8_count S (nI 12) = some (sI (fun t => Z (60 + t)) nT) ∧ t_X8_count S (nI 13) = some (Z 156) ∧ t_X8_count S (nI 14) = some (S.1 8 0 4) := by
  have hn := hJ.1.1
  have hT := hn.1
  have hP := hn.2.2.2.1
  have hW := hn.2.2.2.2
  have h70 := hJ.1.2.1
  have h145 := hJ.1.2.2.2.2.1
  have fc := c_faults hf hT h70
  have l1 := q_lost hf hJ.2.2.2.2.1
  have w1 := q_won hf hT h70
  have hw1 := qc_at hf hJ.1.2.2.2.2.2.1 hW (show h < 2 ^ 31 by omega)
  have g09 : S.1 0 0 9 = nI h := (fr_h hf).trans hJ.1.2.2.2.2.2.2
  have hfi := qc_first hP ((fr_p hf).trans h145)
  have hK := hJ.2.2.2.2.2.2.1
  refine ⟨c_count (by omega) ?_, c_count (by omega) ?_, c_count (by omega) ?_, c_count (by omega) ?_, c_count (by omega) ?_, c_count (by omega) ?_, c_count (by omega) ?_, c_count (by omega) ?_, c_count (by omega) ?_, c_count (by omega) ?_, c_count (by omega) ?_, c_count (by omega) ?_, c_count (by omega) ?_, c_count (by omega) ?_, c_count (by omega) ?_⟩
  · simp +decide (disch := omega) only [s_X8_numberOf, pm_lit, pm_C, fr_n hf, ↓reduceIte]
  · simp +decide (disch := omega) only [s_X8_numberOf, pm_lit, pm_C, fc, pm_cl, ↓reduceIte]
  · simp +decide (disch := omega) only [s_X8_numberOf, pm_lit, pm_C, fr_h hf, ↓reduceIte]
  · simp +decide (disch := omega) only [s_X8_numberOf, pm_lit, pm_C, s_X2_windNow, g09, hw1, pm_cl, ↓reduceIte]
  · simp +decide (disch := omega) only [s_X8_numberOf, pm_lit, pm_C, fr_w hf, ↓reduceIte]
  · simp +decide (disch := omega) only [s_X8_numberOf, pm_lit, pm_C, fr_p hf, ↓reduceIte]
  · by_cases e0 : nP = 0
    · simp +decide (disch := omega) only [s_X8_numberOf, pm_lit, pm_C, hfi, e0, pm_cl, ↓reduceIte]
    · simp +decide (disch := omega) only [s_X8_numberOf, pm_lit, pm_C, hfi, e0, pm_cl, fr_pr hf (show 0 < nP by omega), ↓reduceIte]
  · simp +decide (disch := omega) only [s_X8_numberOf, pm_lit, pm_C, fr_c0 hf, ↓reduceIte]
  · simp +decide (disch := omega) only [s_X8_numberOf, pm_lit, pm_C, fr_c1 hf, ↓reduceIte]
  · simp +decide (disch := omega) only [s_X8_numberOf, pm_lit, pm_C, fr_c2 hf, ↓reduceIte]
  · by_cases e0 : nP = 0
    · by_cases e1 : mI = Z 144
      · have e2 := hK.2.2 e1.symm
        simp +decide (disch := omega) only [s_X8_numberOf, s_X1_workOn, pm_lit, pm_C, hfi, e0, pm_cl, fr_c4 hf, fr_c3 hf, eq_true e1, e2, ↓reduceIte]
      · simp +decide (disch := omega) only [s_X8_numberOf, s_X1_workOn, pm_lit, pm_C, hfi, e0, pm_cl, fr_c4 hf, e1, ↓reduceIte]
    · by_cases e1 : Z 146 = Z 144
      · simp +decide (disch := omega) only [s_X8_numberOf, s_X1_workOn, pm_lit, pm_C, hfi, e0, pm_cl, fr_pr hf (show 0 < nP by omega), fr_c4 hf, fr_c3 hf, e1, ↓reduceIte]
      · simp +decide (disch := omega) only [s_X8_numberOf, s_X1_workOn, pm_lit, pm_C, hfi, e0, pm_cl, fr_pr hf (show 0 < nP by omega), fr_c4 hf, e1, ↓reduceIte]
  · simp +decide (disch := omega) only [s_X8_numberOf, pm_lit, pm_C, l1, pm_cl, ↓reduceIte]
  · simp +decide (disch := omega) only [s_X8_numberOf, pm_lit, pm_C, w1, pm_cl, ↓reduceIte]
  · simp +decide (disch := omega) only [s_X8_numberOf, pm_lit, pm_C, fr_l hf, ↓reduceIte]
  · simp +decide (disch := omega) only [s_X8_numberOf, pm_lit, pm_C, ↓reduceIte]
/-! floats: one times a number -/
theorem one_F {n : Nat} (hn : n < 16777216) : FP.fmul FP.fconst1 (FP.i2f (nI n)) = FP.i2f (nI n) ∧ cr_nfmul FP.fconst1 (FP.i2f (nI n)) = true := by
  by_cases e : n = 0
  · subst e
    exact ⟨by decide +kernel, by decide +kernel⟩
  · have hi : FP.Core.val32 (FP.i2f (nI n)) = FP.Core.round FP.Core.b32 (FP.Core.ofInt (n : Int)) := by rw [FP.Core.val32_i2f, nI_toInt (by omega)]
    obtain ⟨b1, b2, b3⟩ := fl_int flW_32 (a := n) (by omega) (by rw [p2_F]; exact hn)
    rw [b1] at hi
    have hm : FP.Core.val32 (FP.fmul FP.fconst1 (FP.i2f (nI n))) = FP.Core.val32 (FP.i2f (nI n)) := by
      rw [FP.Core.val32_fmul, hi, v1_F]
      have hcm : ∀ (c d : Nat) (q r : Int), FP.Core.exactProduct (.fin false c q) (.fin false d r) = FP.Core.exactProduct (.fin false d r) (.fin false c q) := fun c d q r => by
        show FP.Core.Datum.fin (false != false) (c * d) (q + r) = FP.Core.Datum.fin (false != false) (d * c) (r + q)
        rw [Nat.mul_comm, Int.add_comm]
      rw [hcm]
      exact fl_mulp flW_32 b2 b3 (by rw [p_F]; omega) (by rw [qm_F, p_F]; omega) (by have h9 := flW_32.2.2; omega)
    have hnn : FP.Core.val32 (FP.fmul FP.fconst1 (FP.i2f (nI n))) ≠ .nan := nn_F (hm.trans hi)
    exact ⟨FP.Core.val32_inj hnn hm, gd_F hnn⟩
theorem one_D {n : Nat} (hn : n < 2147483648) : FP.dmul FP.dconst1 (FP.i2d (nI n)) = FP.i2d (nI n) ∧ cr_ndmul FP.dconst1 (FP.i2d (nI n)) = true := by
  by_cases e : n = 0
  · subst e
    exact ⟨by decide +kernel, by decide +kernel⟩
  · have hi : FP.Core.val64 (FP.i2d (nI n)) = FP.Core.round FP.Core.b64 (FP.Core.ofInt (n : Int)) := by rw [FP.Core.val64_i2d, nI_toInt (by omega)]
    obtain ⟨b1, b2, b3⟩ := fl_int flW_64 (a := n) (by omega) (by rw [p2_D]; omega)
    rw [b1] at hi
    have hm : FP.Core.val64 (FP.dmul FP.dconst1 (FP.i2d (nI n))) = FP.Core.val64 (FP.i2d (nI n)) := by
      rw [FP.Core.val64_dmul, hi, v1_D]
      have hcm : ∀ (c d : Nat) (q r : Int), FP.Core.exactProduct (.fin false c q) (.fin false d r) = FP.Core.exactProduct (.fin false d r) (.fin false c q) := fun c d q r => by
        show FP.Core.Datum.fin (false != false) (c * d) (q + r) = FP.Core.Datum.fin (false != false) (d * c) (r + q)
        rw [Nat.mul_comm, Int.add_comm]
      rw [hcm]
      exact fl_mulp flW_64 b2 b3 (by rw [p_D]; omega) (by rw [qm_D, p_D]; omega) (by have h9 := flW_64.2.2; omega)
    have hnn : FP.Core.val64 (FP.dmul FP.dconst1 (FP.i2d (nI n))) ≠ .nan := nn_D (hm.trans hi)
    exact ⟨FP.Core.val64_inj hnn hm, gd_D hnn⟩
theorem okF_c {x : UInt32} (h : okF x) : Op.cmpValue (FP.fcmp x x) .l = nI 0 := by
  rw [show FP.fcmp x x = some .eq from FP.Core.fcmp_self h.1]
  rfl
/-- the mean of the wind and the share that was lost -/
theorem c_mean {nT nB nL nP nW h g : Nat} {S : cr_S} {Z : Nat → Int32} (hf : fr nT nB nL nP nW (S.1 0) Z) (hJ : J nT nB nL nP nW h g Z) : ∃ a : Nat, a ≤ 4752 ∧ sI (fun i => Z (79 + i)) nW = nI a ∧ s_X8_meanWind S = some (if nW = 0 then 1090519040 else FP.fdiv (FP.i2f (nI a)) (FP.i2f (nI nW))) ∧ okF (if nW = 0 then 1090519040 else FP.fdiv (FP.i2f (nI a)) (FP.i2f (nI nW))) := by
  have hW := hJ.1.1.2.2.2.2
  have g11 := (fr_w hf).trans hJ.1.2.2.2.2.2.1
  have hc := qc_sum_4 (S.1 0) nW hW g11 nW 0 1200 rfl (by omega) (by omega)
  rw [sI_congr (c := nW) (g := fun i => Z (79 + i)) (fun k hk => fr_wr hf hk)] at hc
  obtain ⟨a, a1, a2⟩ := sI_nat (f := fun i => Z (79 + i)) (B := 99) nW (fun k hk => hJ.2.2.2.2.2.2.2.2.1 k hk)
  have hcw : s_X7_sum (S.1 0) = some (nI a) := by
    simp only [s_X7_sum, pm_lit]
    rw [← a2]
    exact hc
  refine ⟨a, by omega, a2, ?_⟩
  by_cases e : nW = 0
  · rw [if_pos e]
    exact ⟨by simp (disch := omega) only [s_X8_meanWind, ↓pm_bd, pm_lit, g11, pm_C, e, Nat.le_refl, ↓reduceIte], okF_8⟩
  · have hok := okF_quo (a := a) (b := nW) (by omega) (by omega) (by omega)
    have hg : cr_nfdiv (FP.i2f (nI a)) (FP.i2f (nI nW)) = true := gd_F hok.1
    have e' : ¬ nW ≤ 0 := by omega
    rw [if_neg e]
    exact ⟨by simp (disch := omega) only [s_X8_meanWind, ↓pm_bd, pm_lit, g11, pm_C, e', hcw, pm_cl, hg, pm_gd, ↓reduceIte], hok⟩
theorem c_share {nT nB nL nP nW h : Nat} {S : cr_S} {Z : Nat → Int32} (hf : fr nT nB nL nP nW (S.1 0) Z) (hJ : J nT nB nL nP nW h h Z) (hh : h ≤ 10000) : ∃ a b : Nat, a ≤ 5000000 ∧ b ≤ 5000000 ∧ sI (fun t => Z (50 + t)) nT = nI a ∧ sI (fun t => Z (60 + t)) nT = nI b ∧ s_X8_lostShare S = some (if a + b = 0 then FP.dconst0 else FP.ddiv (FP.i2d (nI a)) (FP.i2d (nI (a + b)))) ∧ okD (if a + b = 0 then FP.dconst0 else FP.ddiv (FP.i2d (nI a)) (FP.i2d (nI (a + b)))) := by
  have hT := hJ.1.1.1
  have h70 := hJ.1.2.1
  have l1 := q_lost hf hJ.2.2.2.2.1
  have w1 := q_won hf hT h70
  have hG := hJ.2.2.2.1
  obtain ⟨a, a1, a2⟩ := sI_nat (f := fun t => Z (50 + t)) (B := 500000) nT (fun k hk => by
    obtain ⟨p, q, p1, p2, p3⟩ := hG k hk
    exact ⟨p, by omega, p1⟩)
  obtain ⟨b, b1, b2⟩ := sI_nat (f := fun t => Z (60 + t)) (B := 500000) nT (fun k hk => by
    obtain ⟨p, q, p1, p2, p3⟩ := hG k hk
    exact ⟨q, by omega, p2⟩)
  rw [a2] at l1
  rw [b2] at w1
  refine ⟨a, b, by omega, by omega, a2, b2, ?_⟩
  by_cases e : a + b = 0
  · rw [if_pos e]
    exact ⟨by simp (disch := omega) only [s_X8_lostShare, ↓pm_bd, pm_lit, l1, w1, pm_cl, pm_add, pm_C, e, Nat.le_refl, ↓reduceIte], okD_0⟩
  · have hok := okD_quo (a := a) (b := a + b) (by omega) (by omega) (by omega)
    have hg : cr_nddiv (FP.i2d (nI a)) (FP.i2d (nI (a + b))) = true := gd_D hok.1
    have e' : ¬ a + b ≤ 0 := by omega
    rw [if_neg e]
    exact ⟨by simp (disch := omega) only [s_X8_lostShare, ↓pm_bd, pm_lit, l1, w1, pm_cl, pm_add, pm_C, e', hg, pm_gd, ↓reduceIte], hok⟩
