/-! ### load, the mean wind, the share of lost power: the law's cases -/
theorem sI_nat {f : Nat → Int32} {B : Nat} : ∀ c : Nat, (∀ k, k < c → bd (f k) B) → ∃ a : Nat, a ≤ B * c ∧ sI f c = nI a := by
  intro c
  induction c with
  | zero => intro _; exact ⟨0, by omega, rfl⟩
  | succ c ih =>
    intro h
    obtain ⟨a, a1, a2⟩ := ih (fun k hk => h k (by omega))
    obtain ⟨b, b1, b2⟩ := h c (by omega)
    refine ⟨a + b, by rw [Nat.mul_add, Nat.mul_one]; omega, ?_⟩
    simp only [sI]
    rw [a2, b2, nI_add]
theorem qc_sum_4 (G : cr_G) (c : Nat) (hc : c ≤ 48) (h0 : G 11 1 = nI c) : ∀ d k n, c - k = d → d < n → k ≤ c → s_X7_sum_4 G n (sI (G 12) k) (nI k) = some (sI (G 12) c) := by
  intro d
  induction d with
  | zero =>
    intro k n hd hn hk
    obtain ⟨n, rfl⟩ : ∃ m, n = m + 1 := ⟨n - 1, by omega⟩
    obtain rfl : k = c := by omega
    simp (disch := omega) only [s_X7_sum_4, pm_lit, pm_S, h0, pm_C, Nat.le_refl, ↓reduceIte]
  | succ d ih =>
    intro k n hd hn hk
    obtain ⟨n, rfl⟩ : ∃ m, n = m + 1 := ⟨n - 1, by omega⟩
    have hck : ¬ c ≤ k := by omega
    have hi := ih (k + 1) n (by omega) (by omega) (by omega)
    simp (disch := omega) only [s_X7_sum_4, ↓pm_bd, pm_gd, pm_lit, pm_S, pm_C, h0, hck, ↓reduceIte]
    exact hi
theorem qm_mean_4 (M : cr_G) (c : Nat) (hc : c ≤ 48) (h0 : M 1 78 = nI c) : ∀ d k n, c - k = d → d < n → k ≤ c → s_X9_meanNow_4 M n (sI (fun i => M 1 (79 + i)) k) (nI k) = if c = 0 then some 1090519040 else cr_gd (cr_nfdiv (FP.i2f (sI (fun i => M 1 (79 + i)) c)) (FP.i2f (nI c))) (some (FP.fdiv (FP.i2f (sI (fun i => M 1 (79 + i)) c)) (FP.i2f (nI c)))) := by
  intro d
  induction d with
  | zero =>
    intro k n hd hn hk
    obtain ⟨n, rfl⟩ : ∃ m, n = m + 1 := ⟨n - 1, by omega⟩
    obtain rfl : k = c := by omega
    simp (disch := omega) only [s_X9_meanNow_4, pm_lit, pm_S, h0, pm_C, Nat.le_refl, ↓reduceIte]
  | succ d ih =>
    intro k n hd hn hk
    obtain ⟨n, rfl⟩ : ∃ m, n = m + 1 := ⟨n - 1, by omega⟩
    have hck : ¬ c ≤ k := by omega
    have hi := ih (k + 1) n (by omega) (by omega) (by omega)
    simp (disch := omega) only [s_X9_meanNow_4, ↓pm_bd, pm_gd, pm_lit, pm_S, pm_C, h0, hck, ↓reduceIte]
    exact hi
theorem q_mean {S : cr_S} {M : cr_G} (hB : BLK (S.1 0) (M 1)) : ∃ x : UInt32, s_X8_meanWind S = some x ∧ s_X9_meanNow M = some x ∧ okF x := by
  obtain ⟨nT, nB, nL, nP, nW, h, hf, hJ, hh⟩ := hB
  have hW := hJ.1.1.2.2.2.2
  have h78 := hJ.1.2.2.2.2.2.1
  have g11 := (fr_w hf).trans h78
  have hm := qm_mean_4 M nW hW h78 nW 0 1200 rfl (by omega) (by omega)
  have hc := qc_sum_4 (S.1 0) nW hW g11 nW 0 1200 rfl (by omega) (by omega)
  rw [sI_congr (c := nW) (g := fun i => M 1 (79 + i)) (fun k hk => fr_wr hf hk)] at hc
  obtain ⟨a, a1, a2⟩ := sI_nat (f := fun i => M 1 (79 + i)) (B := 99) nW (fun k hk => hJ.2.2.2.2.2.2.2.2.1 k hk)
  have hmw : s_X9_meanNow M = s_X9_meanNow_4 M 1200 (sI (fun i => M 1 (79 + i)) 0) (nI 0) := by
    simp only [s_X9_meanNow, pm_lit, sI]
  have hcw : s_X7_sum (S.1 0) = some (nI a) := by
    simp only [s_X7_sum, pm_lit]
    rw [← a2]
    exact hc
  rw [hmw, hm]
  by_cases e : nW = 0
  · rw [if_pos e]
    refine ⟨1090519040, ?_, rfl, okF_8⟩
    simp (disch := omega) only [s_X8_meanWind, ↓pm_bd, pm_lit, g11, pm_C, e, Nat.le_refl, ↓reduceIte]
  · have hok := okF_quo (a := a) (b := nW) (by omega) (by omega) (by omega)
    have hg : cr_nfdiv (FP.i2f (nI a)) (FP.i2f (nI nW)) = true := gd_F hok.1
    have e' : ¬ nW ≤ 0 := by omega
    rw [if_neg e, a2]
    refine ⟨_, ?_, by rw [hg, pm_gd], hok⟩
    simp (disch := omega) only [s_X8_meanWind, ↓pm_bd, pm_lit, g11, pm_C, e', hcw, pm_cl, hg, pm_gd, ↓reduceIte]
theorem q_share {S : cr_S} {M : cr_G} (hB : BLK (S.1 0) (M 1)) : ∃ x : UInt64, s_X8_lostShare S = some x ∧ s_X9_shareNow M = some x ∧ okD x := by
  obtain ⟨nT, nB, nL, nP, nW, h, hf, hJ, hh⟩ := hB
  have hT := hJ.1.1.1
  have h70 := hJ.1.2.1
  have l1 := q_lost hf hJ.2.2.2.2.1
  have l2 := qm_sum (M := M) (a := 50) (by omega) hT h70
  have w1 := q_won hf hT h70
  have w2 := qm_sum (M := M) (a := 60) (by omega) hT h70
  rw [pm_self] at l2 w2
  have hG := hJ.2.2.2.1
  obtain ⟨a, a1, a2⟩ := sI_nat (f := fun t => M 1 (50 + t)) (B := 500000) nT (fun k hk => by
    obtain ⟨p, q, p1, p2, p3⟩ := hG k hk
    exact ⟨p, by omega, p1⟩)
  obtain ⟨b, b1, b2⟩ := sI_nat (f := fun t => M 1 (60 + t)) (B := 500000) nT (fun k hk => by
    obtain ⟨p, q, p1, p2, p3⟩ := hG k hk
    exact ⟨q, by omega, p2⟩)
  rw [a2] at l1 l2
  rw [b2] at w1 w2
  by_cases e : a + b = 0
  · refine ⟨FP.dconst0, ?_, ?_, okD_0⟩
    · simp (disch := omega) only [s_X8_lostShare, ↓pm_bd, pm_lit, l1, w1, pm_cl, pm_add, pm_C, e, Nat.le_refl, ↓reduceIte]
    · simp (disch := omega) only [s_X9_shareNow, pm_lit, l2, w2, pm_cl, pm_add, pm_C, e, ↓reduceIte]
  · have hok := okD_quo (a := a) (b := a + b) (by omega) (by omega) (by omega)
    have hg : cr_nddiv (FP.i2d (nI a)) (FP.i2d (nI (a + b))) = true := gd_D hok.1
    have e' : ¬ a + b ≤ 0 := by omega
    refine ⟨_, ?_, ?_, hok⟩
    · simp (disch := omega) only [s_X8_lostShare, ↓pm_bd, pm_lit, l1, w1, pm_cl, pm_add, pm_C, e', hg, pm_gd, ↓reduceIte]
    · simp (disch := omega) only [s_X9_shareNow, pm_lit, l2, w2, pm_cl, pm_add, pm_C, e, hg, pm_gd, ↓reduceIte]
