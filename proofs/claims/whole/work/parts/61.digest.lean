/-! ### digest -/
theorem ul_ul (S : cr_S) (a b : Int64) : cr_ul (cr_ul S 0 a) 0 b = cr_ul S 0 b := by
  unfold cr_ul
  refine congrArg (Prod.mk S.1) ?_
  funext k
  unfold vp_updL
  by_cases e : k = 0 <;> simp only [e, if_true, if_false]
theorem ul_0 (S : cr_S) (a : Int64) : (cr_ul S 0 a).2 0 = a := rfl
theorem ul_us (S : cr_S) (a : Int64) (G : cr_G) : cr_us (cr_ul S 0 a) 9 G = cr_ul (cr_us S 9 G) 0 a := rfl
theorem mix_ul (S : cr_S) (x v : Int64) : s_X9_mix v (cr_ul S 0 x) = some (cr_ul S 0 (31 * x + v)) := by
  simp only [s_X9_mix, ↓pm_bd, ul_0, ul_ul]
theorem g_cnt {nT nB nL nP nW h g : Nat} {S : cr_S} {M : cr_G} (hf : fr nT nB nL nP nW (S.1 0) (M 1)) (hJ : J nT nB nL nP nW h g (M 1)) (hh : h < 1000000) (hs : S.1 8 0 4 = M 0 5) : ∀ (d k n n' : Nat) (x : Int64), 15 - k = d → d < n → d < n' → k ≤ 15 → ∃ (m : Nat) (x' : Int64), s_X8_digest_6 n x (nI k) S = s_X8_digest_6 (m + 1) x' (nI 15) S ∧ ∀ T : cr_S, T.1 9 = M → s_X9_digest_14 n' (nI k) (cr_ul T 0 x) = s_X9_digest_38 1200 (nI 0) (cr_ul T 0 x') := by
  intro d
  induction d with
  | zero =>
    intro k n n' x hd hn hn' hk
    obtain ⟨n, rfl⟩ : ∃ m, n = m + 1 := ⟨n - 1, by omega⟩
    obtain ⟨n', rfl⟩ : ∃ m, n' = m + 1 := ⟨n' - 1, by omega⟩
    obtain rfl : k = 15 := by omega
    refine ⟨n, x, rfl, fun T hT => ?_⟩
    simp (disch := omega) only [s_X9_digest_14, pm_lit, pm_C, Nat.le_refl, ↓reduceIte]
  | succ d ih =>
    intro k n n' x hd hn hn' hk
    obtain ⟨n, rfl⟩ : ∃ m, n = m + 1 := ⟨n - 1, by omega⟩
    obtain ⟨n', rfl⟩ : ∃ m, n' = m + 1 := ⟨n' - 1, by omega⟩
    have h1 : ¬ 14 < k := by omega
    have h2 : ¬ 15 ≤ k := by omega
    obtain ⟨v, v1, v2⟩ := q_counted (M := M) hf hJ hh hs (nI k)
    rw [pm_self] at v2
    obtain ⟨m, x', e1, e2⟩ := ih (k + 1) n n' (31 * x + v.toInt64) (by omega) (by omega) (by omega) (by omega)
    refine ⟨m, x', ?_, fun T hT => ?_⟩
    · simp (disch := omega) only [s_X8_digest_6, s_X8_mix, ↓pm_bd, pm_lit, pm_S, pm_C, h1, v1, pm_cl, ↓reduceIte]
      exact e1
    · simp (disch := omega) only [s_X9_digest_14, ↓pm_bd, pm_lit, pm_S, pm_C, h2, ul_1, hT, v2, pm_cl, mix_ul, ↓reduceIte]
      exact e2 T hT
theorem g_set {nT nB nL nP nW : Nat} {S : cr_S} {M : cr_G} (hf : fr nT nB nL nP nW (S.1 0) (M 1)) : ∀ (d k n n' : Nat) (x : Int64), 7 - k = d → d < n → d < n' → k ≤ 7 → ∃ x' : Int64, s_X8_mixFarm_5 S n x (nI k) = s_X8_mixFarm_37 S 1200 x' (nI 0) ∧ ∀ T : cr_S, T.1 9 = M → s_X9_digest_38 n' (nI k) (cr_ul T 0 x) = s_X9_digest_66 1200 (nI 0) (cr_ul T 0 x') := by
  intro d
  induction d with
  | zero =>
    intro k n n' x hd hn hn' hk
    obtain ⟨n, rfl⟩ : ∃ m, n = m + 1 := ⟨n - 1, by omega⟩
    obtain ⟨n', rfl⟩ : ∃ m, n' = m + 1 := ⟨n' - 1, by omega⟩
    obtain rfl : k = 7 := by omega
    refine ⟨x, ?_, fun T hT => ?_⟩
    · simp (disch := omega) only [s_X8_mixFarm_5, pm_lit, pm_C, Nat.le_refl, ↓reduceIte]
    · simp (disch := omega) only [s_X9_digest_38, pm_lit, pm_C, Nat.le_refl, ↓reduceIte]
  | succ d ih =>
    intro k n n' x hd hn hn' hk
    obtain ⟨n, rfl⟩ : ∃ m, n = m + 1 := ⟨n - 1, by omega⟩
    obtain ⟨n', rfl⟩ : ∃ m, n' = m + 1 := ⟨n' - 1, by omega⟩
    have h1 : ¬ 7 ≤ k := by omega
    have v1 := fr_s hf (show k < 7 by omega)
    obtain ⟨x', e1, e2⟩ := ih (k + 1) n n' (31 * x + (M 1 (71 + k)).toInt64) (by omega) (by omega) (by omega) (by omega)
    refine ⟨x', ?_, fun T hT => ?_⟩
    · simp (disch := omega) only [s_X8_mixFarm_5, s_X8_mix, ↓pm_bd, pm_gd, pm_lit, pm_S, pm_C, h1, v1, pm_cl, ↓reduceIte]
      exact e1
    · simp (disch := omega) only [s_X9_digest_38, ↓pm_bd, pm_gd, pm_lit, pm_S, pm_C, h1, ul_1, hT, pm_cl, mix_ul, ↓reduceIte]
      exact e2 T hT
theorem g_tin {nT nB nL nP nW h g t : Nat} {S : cr_S} {M : cr_G} (hf : fr nT nB nL nP nW (S.1 0) (M 1)) (hJ : J nT nB nL nP nW h g (M 1)) (hh : h < 1000000) (ht : t < nT) (k37 : Int64 → Int32 → Option Int64) (k66 : Int32 → cr_S → Option (Int64 × cr_S)) : ∀ (d k n n' : Nat) (x : Int64), 11 - k = d → d < n → d < n' → k ≤ 11 → ∃ x' : Int64, s_X8_mixFarm_52 S k37 n x (nI t) (nI k) = k37 x' (nI (t + 1)) ∧ ∀ T : cr_S, T.1 9 = M → s_X9_digest_79 k66 n' (nI t) (nI k) (cr_ul T 0 x) = k66 (nI (t + 1)) (cr_ul T 0 x') := by
  intro d
  have hT := hJ.1.1.1
  induction d with
  | zero =>
    intro k n n' x hd hn hn' hk
    obtain ⟨n, rfl⟩ : ∃ m, n = m + 1 := ⟨n - 1, by omega⟩
    obtain ⟨n', rfl⟩ : ∃ m, n' = m + 1 := ⟨n' - 1, by omega⟩
    obtain rfl : k = 11 := by omega
    have h1 : 10 < 11 := by omega
    obtain ⟨v, v1, v2⟩ := q_window (M := M) hf hJ hh ht (show 1 ≤ 3 ∧ 3 ≤ 24 by omega)
    rw [pm_self] at v2
    refine ⟨31 * x + v.toInt64, ?_, fun T hT => ?_⟩
    · simp (disch := omega) only [s_X8_mixFarm_52, s_X8_mix, ↓pm_bd, pm_lit, pm_S, pm_C, h1, v1, pm_cl, ↓reduceIte]
    · simp (disch := omega) only [s_X9_digest_79, ↓pm_bd, pm_lit, pm_S, pm_C, Nat.le_refl, ul_1, hT, v2, pm_cl, mix_ul, ↓reduceIte]
  | succ d ih =>
    intro k n n' x hd hn hn' hk
    obtain ⟨n, rfl⟩ : ∃ m, n = m + 1 := ⟨n - 1, by omega⟩
    obtain ⟨n', rfl⟩ : ∃ m, n' = m + 1 := ⟨n' - 1, by omega⟩
    have h1 : ¬ 10 < k := by omega
    have h2 : ¬ 11 ≤ k := by omega
    obtain ⟨v, v1, v2⟩ := q_prop (M := M) hf hJ hh ht (nI k)
    rw [pm_self] at v2
    obtain ⟨x', e1, e2⟩ := ih (k + 1) n n' (31 * x + v.toInt64) (by omega) (by omega) (by omega) (by omega)
    refine ⟨x', ?_, fun T hT => ?_⟩
    · simp (disch := omega) only [s_X8_mixFarm_52, s_X8_mix, ↓pm_bd, pm_lit, pm_S, pm_C, h1, v1, pm_cl, ↓reduceIte]
      exact e1
    · simp (disch := omega) only [s_X9_digest_79, ↓pm_bd, pm_lit, pm_S, pm_C, h2, ul_1, hT, v2, pm_cl, mix_ul, ↓reduceIte]
      exact e2 T hT
theorem g_tur {nT nB nL nP nW h g : Nat} {S : cr_S} {M : cr_G} (hf : fr nT nB nL nP nW (S.1 0) (M 1)) (hJ : J nT nB nL nP nW h g (M 1)) (hh : h < 1000000) : ∀ (d k n n' : Nat) (x : Int64), nT - k = d → d < n → d < n' → k ≤ nT → ∃ x' : Int64, s_X8_mixFarm_37 S n x (nI k) = s_X8_mixFarm_107 S 1200 x' (nI 0) ∧ ∀ T : cr_S, T.1 9 = M → s_X9_digest_66 n' (nI k) (cr_ul T 0 x) = s_X9_digest_121 1200 (nI 0) (cr_ul T 0 x') := by
  intro d
  have hT10 := hJ.1.1.1
  have h70 := hJ.1.2.1
  have g01 := (fr_n hf).trans h70
  induction d with
  | zero =>
    intro k n n' x hd hn hn' hk
    obtain ⟨n, rfl⟩ : ∃ m, n = m + 1 := ⟨n - 1, by omega⟩
    obtain ⟨n', rfl⟩ : ∃ m, n' = m + 1 := ⟨n' - 1, by omega⟩
    obtain rfl : k = nT := by omega
    refine ⟨x, ?_, fun T hT => ?_⟩
    · simp (disch := omega) only [s_X8_mixFarm_37, pm_lit, g01, pm_C, Nat.le_refl, ↓reduceIte]
    · simp (disch := omega) only [s_X9_digest_66, pm_lit, ul_1, hT, h70, pm_C, Nat.le_refl, ↓reduceIte]
  | succ d ih =>
    intro k n n' x hd hn hn' hk
    obtain ⟨n, rfl⟩ : ∃ m, n = m + 1 := ⟨n - 1, by omega⟩
    obtain ⟨n', rfl⟩ : ∃ m, n' = m + 1 := ⟨n' - 1, by omega⟩
    have h1 : ¬ nT ≤ k := by omega
    obtain ⟨x1, a1, a2⟩ := g_tin hf hJ hh (show k < nT by omega) (fun x3a x5a => s_X8_mixFarm_37 S n x3a x5a) (fun x1a Sa => s_X9_digest_66 n' x1a Sa) 11 0 1200 1200 x rfl (by omega) (by omega) (by omega)
    obtain ⟨x', e1, e2⟩ := ih (k + 1) n n' x1 (by omega) (by omega) (by omega) (by omega)
    refine ⟨x', ?_, fun T hT => ?_⟩
    · simp (disch := omega) only [s_X8_mixFarm_37, pm_lit, g01, pm_C, h1, ↓reduceIte]
      exact a1.trans e1
    · simp (disch := omega) only [s_X9_digest_66, pm_lit, ul_1, hT, h70, pm_C, h1, ↓reduceIte]
      exact (a2 T hT).trans (e2 T hT)
theorem g_bla {nT nB nL nP nW h g : Nat} {S : cr_S} {M : cr_G} (hf : fr nT nB nL nP nW (S.1 0) (M 1)) (hJ : J nT nB nL nP nW h g (M 1)) : ∀ (d k n n' : Nat) (x : Int64), nL - k = d → d < n → d < n' → k ≤ nL → ∃ x' : Int64, s_X8_mixFarm_107 S n x (nI k) = s_X8_mixFarm_169 S 1200 x' (nI 0) ∧ ∀ T : cr_S, T.1 9 = M → s_X9_digest_121 n' (nI k) (cr_ul T 0 x) = s_X9_digest_171 1200 (nI 0) (cr_ul T 0 x') := by
  intro d
  have hL10 := hJ.1.1.2.2.1
  have h156 := hJ.1.2.2.2.1
  have g52 := (fr_l hf).trans h156
  induction d with
  | zero =>
    intro k n n' x hd hn hn' hk
    obtain ⟨n, rfl⟩ : ∃ m, n = m + 1 := ⟨n - 1, by omega⟩
    obtain ⟨n', rfl⟩ : ∃ m, n' = m + 1 := ⟨n' - 1, by omega⟩
    obtain rfl : k = nL := by omega
    refine ⟨x, ?_, fun T hT => ?_⟩
    · simp (disch := omega) only [s_X8_mixFarm_107, pm_lit, g52, pm_C, Nat.le_refl, ↓reduceIte]
    · simp (disch := omega) only [s_X9_digest_121, pm_lit, ul_1, hT, h156, pm_C, Nat.le_refl, ↓reduceIte]
  | succ d ih =>
    intro k n n' x hd hn hn' hk
    obtain ⟨n, rfl⟩ : ∃ m, n = m + 1 := ⟨n - 1, by omega⟩
    obtain ⟨n', rfl⟩ : ∃ m, n' = m + 1 := ⟨n' - 1, by omega⟩
    have h1 : ¬ nL ≤ k := by omega
    have v1 := fr_lw hf (show k < nL by omega)
    have v2 := fr_lg hf (show k < nL by omega)
    obtain ⟨x', e1, e2⟩ := ih (k + 1) n n' (31 * (31 * x + (M 1 (157 + k)).toInt64) + (M 1 (167 + k)).toInt64) (by omega) (by omega) (by omega) (by omega)
    refine ⟨x', ?_, fun T hT => ?_⟩
    · simp (disch := omega) only [s_X8_mixFarm_107, s_X8_mix, ↓pm_bd, pm_gd, pm_lit, pm_S, g52, pm_C, h1, v1, v2, pm_cl, ↓reduceIte]
      exact e1
    · simp (disch := omega) only [s_X9_digest_121, ↓pm_bd, pm_gd, pm_lit, pm_S, h156, pm_C, h1, ul_1, hT, pm_cl, mix_ul, ↓reduceIte]
      exact e2 T hT
theorem g_bog {nT nB nL nP nW h g : Nat} {S : cr_S} {M : cr_G} (hf : fr nT nB nL nP nW (S.1 0) (M 1)) (hJ : J nT nB nL nP nW h g (M 1)) : ∀ (d k n n' : Nat) (x : Int64), nB - k = d → d < n → d < n' → k ≤ nB → ∃ x' : Int64, s_X8_mixFarm_169 S n x (nI k) = s_X8_mixFarm_231 S 1200 x' (nI 0) ∧ ∀ T : cr_S, T.1 9 = M → s_X9_digest_171 n' (nI k) (cr_ul T 0 x) = s_X9_digest_220 1200 (nI 0) (cr_ul T 0 x') := by
  intro d
  have hB6 := hJ.1.1.2.1
  have h127 := hJ.1.2.2.1
  have g22 := (fr_b hf).trans h127
  induction d with
  | zero =>
    intro k n n' x hd hn hn' hk
    obtain ⟨n, rfl⟩ : ∃ m, n = m + 1 := ⟨n - 1, by omega⟩
    obtain ⟨n', rfl⟩ : ∃ m, n' = m + 1 := ⟨n' - 1, by omega⟩
    obtain rfl : k = nB := by omega
    refine ⟨x, ?_, fun T hT => ?_⟩
    · simp (disch := omega) only [s_X8_mixFarm_169, pm_lit, g22, pm_C, Nat.le_refl, ↓reduceIte]
    · simp (disch := omega) only [s_X9_digest_171, pm_lit, ul_1, hT, h127, pm_C, Nat.le_refl, ↓reduceIte]
  | succ d ih =>
    intro k n n' x hd hn hn' hk
    obtain ⟨n, rfl⟩ : ∃ m, n = m + 1 := ⟨n - 1, by omega⟩
    obtain ⟨n', rfl⟩ : ∃ m, n' = m + 1 := ⟨n' - 1, by omega⟩
    have h1 : ¬ nB ≤ k := by omega
    have v1 := fr_bp hf (show k < nB by omega)
    have v2 := fr_bn hf (show k < nB by omega)
    obtain ⟨x', e1, e2⟩ := ih (k + 1) n n' (31 * (31 * x + (M 1 (128 + k)).toInt64) + (M 1 (134 + k)).toInt64) (by omega) (by omega) (by omega) (by omega)
    refine ⟨x', ?_, fun T hT => ?_⟩
    · simp (disch := omega) only [s_X8_mixFarm_169, s_X8_mix, ↓pm_bd, pm_gd, pm_lit, pm_S, g22, pm_C, h1, v1, v2, pm_cl, ↓reduceIte]
      exact e1
    · simp (disch := omega) only [s_X9_digest_171, ↓pm_bd, pm_gd, pm_lit, pm_S, h127, pm_C, h1, ul_1, hT, pm_cl, mix_ul, ↓reduceIte]
      exact e2 T hT
theorem g_cla {nT nB nL nP nW : Nat} {S : cr_S} {M : cr_G} (hf : fr nT nB nL nP nW (S.1 0) (M 1)) : ∀ (d k n n' : Nat) (x : Int64), 5 - k = d → d < n → d < n' → k ≤ 5 → ∃ x' : Int64, s_X8_mixFarm_231 S n x (nI k) = some x' ∧ ∀ T : cr_S, T.1 9 = M → s_X9_digest_220 n' (nI k) (cr_ul T 0 x) = s_X9_digest_248 1200 (nI 0) (cr_ul T 0 x') := by
  intro d
  induction d with
  | zero =>
    intro k n n' x hd hn hn' hk
    obtain ⟨n, rfl⟩ : ∃ m, n = m + 1 := ⟨n - 1, by omega⟩
    obtain ⟨n', rfl⟩ : ∃ m, n' = m + 1 := ⟨n' - 1, by omega⟩
    obtain rfl : k = 5 := by omega
    refine ⟨x, ?_, fun T hT => ?_⟩
    · simp (disch := omega) only [s_X8_mixFarm_231, pm_lit, pm_C, Nat.le_refl, ↓reduceIte]
    · simp (disch := omega) only [s_X9_digest_220, pm_lit, pm_C, Nat.le_refl, ↓reduceIte]
  | succ d ih =>
    intro k n n' x hd hn hn' hk
    obtain ⟨n, rfl⟩ : ∃ m, n = m + 1 := ⟨n - 1, by omega⟩
    obtain ⟨n', rfl⟩ : ∃ m, n' = m + 1 := ⟨n' - 1, by omega⟩
    have h1 : ¬ 5 ≤ k := by omega
    have v1 := fr_q hf (show k < 5 by omega)
    obtain ⟨x', e1, e2⟩ := ih (k + 1) n n' (31 * x + (M 1 (177 + k)).toInt64) (by omega) (by omega) (by omega) (by omega)
    refine ⟨x', ?_, fun T hT => ?_⟩
    · simp (disch := omega) only [s_X8_mixFarm_231, s_X8_mix, ↓pm_bd, pm_gd, pm_lit, pm_S, pm_C, h1, v1, pm_cl, ↓reduceIte]
      exact e1
    · simp (disch := omega) only [s_X9_digest_220, ↓pm_bd, pm_gd, pm_lit, pm_S, pm_C, h1, ul_1, hT, pm_cl, mix_ul, ↓reduceIte]
      exact e2 T hT
theorem g_farm {nT nB nL nP nW h g : Nat} {S : cr_S} {M : cr_G} (hf : fr nT nB nL nP nW (S.1 0) (M 1)) (hJ : J nT nB nL nP nW h g (M 1)) (hh : h < 1000000) (x : Int64) : ∃ x' : Int64, s_X8_mixFarm S x = some x' ∧ ∀ T : cr_S, T.1 9 = M → s_X9_digest_38 1200 (nI 0) (cr_ul T 0 x) = s_X9_digest_248 1200 (nI 0) (cr_ul T 0 x') := by
  have hn := hJ.1.1
  obtain ⟨x1, a1, b1⟩ := g_set hf 7 0 1200 1200 x rfl (by omega) (by omega) (by omega)
  obtain ⟨x2, a2, b2⟩ := g_tur hf hJ hh nT 0 1200 1200 x1 rfl (by unfold okn at hn; omega) (by unfold okn at hn; omega) (by omega)
  obtain ⟨x3, a3, b3⟩ := g_bla hf hJ nL 0 1200 1200 x2 rfl (by unfold okn at hn; omega) (by unfold okn at hn; omega) (by omega)
  obtain ⟨x4, a4, b4⟩ := g_bog hf hJ nB 0 1200 1200 x3 rfl (by unfold okn at hn; omega) (by unfold okn at hn; omega) (by omega)
  obtain ⟨x5, a5, b5⟩ := g_cla hf 5 0 1200 1200 x4 rfl (by omega) (by omega) (by omega)
  refine ⟨x5, ?_, fun T hT => (b1 T hT).trans ((b2 T hT).trans ((b3 T hT).trans ((b4 T hT).trans (b5 T hT))))⟩
  simp only [s_X8_mixFarm, pm_lit]
  exact a1.trans (a2.trans (a3.trans (a4.trans a5)))
/-- what would be after 24 hours, number by number -/
theorem g_out {S : cr_S} {Gt G1 : cr_G} {v0 : Int32} (hc : s_X2_copyFrom (S.1 0) Gt = some G1) (hr : s_X2_runHours (nI 24) G1 = some (v0, S.1 1)) : ∀ (d k n n' : Nat) (x : Int64) (M : cr_G), 9 - k = d → d < n → d < n' → k ≤ 9 → BLK (S.1 0) (M 1) → ∃ (m m' : Nat) (x' : Int64) (M' : cr_G), s_X8_digest_58 n x (nI k) S = s_X8_digest_58 (m + 1) x' (nI 9) S ∧ scr M M' ∧ ∀ T : cr_S, T.1 9 = M → s_X9_digest_248 n' (nI k) (cr_ul T 0 x) = s_X9_digest_248 (m' + 1) (nI 9) (cr_ul (cr_us T 9 M') 0 x') := by
  intro d
  induction d with
  | zero =>
    intro k n n' x M hd hn hn' hk hB
    obtain ⟨n, rfl⟩ : ∃ m, n = m + 1 := ⟨n - 1, by omega⟩
    obtain ⟨n', rfl⟩ : ∃ m, n' = m + 1 := ⟨n' - 1, by omega⟩
    obtain rfl : k = 9 := by omega
    refine ⟨n, n', x, M, rfl, ⟨fun _ _ _ => rfl, fun _ _ => rfl⟩, fun T hT => ?_⟩
    subst hT
    rw [cr_us_self]
  | succ d ih =>
    intro k n n' x M hd hn hn' hk hB
    obtain ⟨n, rfl⟩ : ∃ m, n = m + 1 := ⟨n - 1, by omega⟩
    obtain ⟨n', rfl⟩ : ∃ m, n' = m + 1 := ⟨n' - 1, by omega⟩
    have h1 : ¬ 8 < k := by omega
    have h2 : ¬ 9 ≤ k := by omega
    have hB2 := hB
    obtain ⟨nT, nB, nL, nP, nW, h, hf, hJ, hh⟩ := hB2
    obtain ⟨v, w, G1', G2', M', c1, c2, c3, c4, c5⟩ := q_after (K := 24) (a := k) hf hJ (by omega) (by omega) (by omega) Gt
    have hG1 : G1' = G1 := Option.some.inj (c1.symm.trans hc)
    subst hG1
    have hG2 : G2' = S.1 1 := (Prod.mk.inj (Option.some.inj (c2.symm.trans hr))).2
    subst hG2
    obtain ⟨m, m', x', M2, e1, e3, e2⟩ := ih (k + 1) n n' (31 * x + w.toInt64) M' (by omega) (by omega) (by omega) (by omega) (BLK_c hB c5.2)
    refine ⟨m, m', x', M2, ?_, ⟨fun j a b => (e3.1 j a b).trans (c5.1 j a b), fun q hq => (e3.2 q hq).trans (c5.2 q hq)⟩, fun T hT => ?_⟩
    · simp (disch := omega) only [s_X8_digest_58, s_X8_mix, ↓pm_bd, pm_lit, pm_S, pm_C, h1, c3, pm_cl, ↓reduceIte]
      exact e1
    · have e4 := e2 (cr_us T 9 M') (cr_us_eq T 9 M')
      rw [cr_us_us] at e4
      rw [← e4]
      simp (disch := omega) only [s_X9_digest_248, ↓pm_bd, pm_lit, pm_S, pm_C, h2, ul_1, hT, c4, pm_cl, ul_us, mix_ul, ↓reduceIte]
/-- the letters -/
theorem g_let {S : cr_S} {M : cr_G} {len : Nat} (ht : TXs (S.1 8) M len) : ∀ (d k n n' : Nat) (x : Int64), len - k = d → d < n → d < n' → k ≤ len → ∃ x' : Int64, s_X8_digest_144 n x (nI k) S = some (x', S) ∧ ∀ T : cr_S, T.1 9 = M → s_X9_digest_324 n' (nI k) (cr_ul T 0 x) = some (x', cr_ul T 0 x') := by
  obtain ⟨t1, t2, t3, t4⟩ := ht
  intro d
  induction d with
  | zero =>
    intro k n n' x hd hn hn' hk
    obtain ⟨n, rfl⟩ : ∃ m, n = m + 1 := ⟨n - 1, by omega⟩
    obtain ⟨n', rfl⟩ : ∃ m, n' = m + 1 := ⟨n' - 1, by omega⟩
    obtain rfl : k = len := by omega
    refine ⟨x, ?_, fun T hT => ?_⟩
    · simp (disch := omega) only [s_X8_digest_144, t2, pm_C, Nat.le_refl, ↓reduceIte]
    · simp (disch := omega) only [s_X9_digest_324, ul_1, hT, t3, pm_C, Nat.le_refl, ul_0, ↓reduceIte]
  | succ d ih =>
    intro k n n' x hd hn hn' hk
    obtain ⟨n, rfl⟩ : ∃ m, n = m + 1 := ⟨n - 1, by omega⟩
    obtain ⟨n', rfl⟩ : ∃ m, n' = m + 1 := ⟨n' - 1, by omega⟩
    have h1 : ¬ len ≤ k := by omega
    have v1 := (t4 k (by omega)).1
    obtain ⟨x', e1, e2⟩ := ih (k + 1) n n' (31 * x + (M 4 k).toInt64) (by omega) (by omega) (by omega) (by omega)
    refine ⟨x', ?_, fun T hT => ?_⟩
    · simp (disch := omega) only [s_X8_digest_144, s_X8_mix, ↓pm_bd, pm_gd, pm_lit, pm_S, t2, pm_C, h1, v1, pm_cl, ↓reduceIte]
      exact e1
    · simp (disch := omega) only [s_X9_digest_324, ↓pm_bd, pm_gd, pm_lit, pm_S, pm_C, ul_1, hT, t3, h1, pm_cl, mix_ul, ↓reduceIte]
      exact e2 T hT
theorem scr_tr {M M' M'' : cr_G} (h : scr M M') (h' : scr M' M'') : scr M M'' := ⟨fun j a b => (h'.1 j a b).trans (h.1 j a b), fun q hq => (h'.2 q hq).trans (h.2 q hq)⟩
theorem TXs_scr {A M M' : cr_G} {len : Nat} (h : TXs A M len) (hs : scr M M') : TXs A M' len := by
  obtain ⟨t1, t2, t3, t4⟩ := h
  refine ⟨t1, t2, ?_, fun k hk => ?_⟩
  · rw [hs.1 0 (by omega) (by omega)]; exact t3
  · rw [hs.1 4 (by omega) (by omega)]; exact t4 k hk
theorem g_end {S : cr_S} {M : cr_G} {len n n' : Nat} (hB : BLK (S.1 0) (M 1)) (ht : TXs (S.1 8) M len) (x : Int64) : ∃ (x' : Int64) (Gz M' : cr_G), s_X8_digest_58 (n + 1) x (nI 9) S = some (x', cr_us S 1 Gz) ∧ scr M M' ∧ ∀ T : cr_S, T.1 9 = M → s_X9_digest_248 (n' + 1) (nI 9) (cr_ul T 0 x) = some (x', cr_ul (cr_us T 9 M') 0 x') := by
  have hB2 := hB
  obtain ⟨nT, nB, nL, nP, nW, h, hf, hJ, hh⟩ := hB2
  obtain ⟨v, Gy, M2, a1, a2, a3⟩ := q_best hf hJ (by omega)
  have hB3 : BLK ((cr_us S 1 Gy).1 0) (M2 1) := by
    rw [cr_us_ne _ _ (by omega)]
    exact BLK_c hB a3.2
  have hB4 := hB3
  obtain ⟨nT', nB', nL', nP', nW', h', hf', hJ', hh'⟩ := hB4
  obtain ⟨w, Gz, M3, b1, b2, b3⟩ := q_done hf' hJ' (by omega)
  rw [cr_us_us] at b1
  have hs := scr_tr a3 b3
  have hB5 : BLK ((cr_us S 1 Gz).1 0) (M3 1) := by
    rw [cr_us_ne _ _ (by omega)]
    exact BLK_c hB hs.2
  obtain ⟨f, f1, f2, f3⟩ := q_mean hB5
  obtain ⟨r, r1, r2, r3⟩ := q_share hB5
  have ht5 : TXs ((cr_us S 1 Gz).1 8) M3 len := by
    rw [cr_us_ne _ _ (by omega)]
    exact TXs_scr ht hs
  have hl := ht5.1
  have t2 := ht5.2.1
  have t3 := ht5.2.2.1
  obtain ⟨x', e1, e2⟩ := g_let ht5 len 0 1200 1200 (31 * (31 * (31 * (31 * (31 * x + v.toInt64) + w.toInt64) + f.toInt32.toInt64) + r.toInt64) + (nI len).toInt64) rfl (by omega) (by omega) (by omega)
  refine ⟨x', Gz, M3, ?_, hs, fun T hT => ?_⟩
  · have h1 : 8 < 9 := by omega
    simp (disch := omega) only [s_X8_digest_58, s_X8_mix, pm_lit, pm_C, h1, a1, pm_cl, b1, f1, f3.2, r1, r3.2, t2, ↓reduceIte]
    exact e1
  · have f4 := okF_m f3
    have r4 := okD_m r3
    have u1 : ∀ (X : cr_S) (G : cr_G), (cr_us X 9 G).1 9 = G := fun X G => cr_us_eq X 9 G
    simp (disch := omega) only [s_X9_digest_248, ↓pm_bd, pm_lit, pm_C, Nat.le_refl, ul_1, hT, a2, pm_cl, ul_us, mix_ul, u1, b2, cr_us_us, f2, f4, r2, r4, t3, ↓reduceIte]
    exact e2 (cr_us T 9 M3) (u1 T M3)
theorem w_1536 : CS s_L_law_1536 := by
  intro xs L j S hj hL hR k23
  obtain ⟨P0, hP0, h1, hpa, hR0, h7⟩ := q_start hR
  have hR9 := hR0
  obtain ⟨hB, ⟨o, c, s1, s2, s3, s4, s5, s6⟩, len, ht⟩ := hR9
  have hB2 := hB
  obtain ⟨nT, nB, nL, nP, nW, h, hf, hJ, hh⟩ := hB2
  obtain ⟨m1, x1, a1, b1⟩ := g_cnt hf hJ (by omega) (s4.trans s5.symm) 15 0 1200 1200 2269 rfl (by omega) (by omega) (by omega)
  obtain ⟨x2, a2, b2⟩ := g_farm hf hJ (by omega) x1
  obtain ⟨v, w, G1, G2, M9, c1, c2, -, -, -⟩ := q_after (K := 24) (a := 0) hf hJ (by omega) (by omega) (by omega) (S.1 1)
  have hS0 : (cr_us S 1 G2).1 0 = S.1 0 := cr_us_ne _ _ (by omega)
  have hS1 : (cr_us S 1 G2).1 1 = G2 := cr_us_eq _ _ _
  have hS8 : (cr_us S 1 G2).1 8 = S.1 8 := cr_us_ne _ _ (by omega)
  obtain ⟨m3, m3', x3, M3, a3, e3, b3⟩ := g_out (S := cr_us S 1 G2) (Gt := S.1 1) (G1 := G1) (v0 := v) (by rw [hS0]; exact c1) (by rw [hS1]; exact c2) 9 0 1200 1200 x2 P0 rfl (by omega) (by omega) (by omega) (by rw [hS0]; exact hB)
  obtain ⟨x4, Gz, M4, a4, e4, b4⟩ := g_end (S := cr_us S 1 G2) (M := M3) (len := len) (n := m3) (n' := m3') (by rw [hS0]; exact BLK_c hB e3.2) (by rw [hS8]; exact TXs_scr ht e3) x3
  rw [cr_us_us] at a4
  have hd : s_X8_digest S = some (x4, cr_us S 1 Gz) := by
    have h15 : 14 < 15 := by omega
    simp only [s_X8_digest, pm_lit]
    rw [a1]
    simp (disch := omega) only [s_X8_digest_6, ↓pm_bd, pm_lit, pm_C, h15, a2, pm_cl, c1, cr_us_eq, c2, cr_us_us, ↓reduceIte]
    exact a3.trans a4
  have hS9 : (cr_us S 1 Gz).1 9 = S.1 9 := cr_us_ne _ _ (by omega)
  have hT0 : (cr_us (cr_us S 1 Gz) 9 P0).1 9 = P0 := cr_us_eq _ _ _
  have hm : s_X9_digest (cr_us S 1 Gz) = some (x4, cr_ul (cr_us (cr_us S 1 Gz) 9 M4) 0 x4) := by
    simp only [s_X9_digest, ↓pm_bd, pm_lit, cr_sp, hS9, ← hP0]
    rw [b1 _ hT0, b2 _ hT0, b3 _ hT0, b4 _ (cr_us_eq _ _ _)]
    simp only [cr_us_us]
  have hs := scr_tr e3 e4
  refine ⟨cr_ul (cr_us (cr_us S 1 Gz) 9 M4) 0 x4, ?_, ?_⟩
  · simp (disch := omega) only [s_L_law_1536, pm_lit, hd, pm_cl, hm, lg_same, pm_add, ↓reduceIte]
  · have h9 : (cr_ul (cr_us (cr_us S 1 Gz) 9 M4) 0 x4).1 9 = M4 := by
      show (cr_us (cr_us S 1 Gz) 9 M4).1 9 = M4
      exact cr_us_eq _ _ _
    rw [h9]
    refine R_c hR0 (fun f f1 f9 => ?_) hs.2 (hs.1 3 (by omega) (by omega)) (hs.1 4 (by omega) (by omega)) (by rw [hs.1 0 (by omega) (by omega)]) (by rw [hs.1 0 (by omega) (by omega)])
    show (cr_us (cr_us S 1 Gz) 9 M4).1 f = S.1 f
    rw [cr_us_ne _ _ (by omega), cr_us_ne _ _ f1]
