/-! ### texts: whether the buffer is right, and to where -/
def ax (A : cr_G) (cd : Nat → Nat) (len : Nat) : Prop := len ≤ 60 ∧ A 2 1 = nI len ∧ ∀ k, k < len → A 3 k = nI (cd k) ∧ cd k < 127
def mx (P : cr_G) (cd : Nat → Nat) (len : Nat) : Prop := len ≤ 60 ∧ P 0 6 = nI len ∧ ∀ k, k < len → P 4 k = nI (cd k) ∧ cd k < 127
theorem mx_k {P P' : cr_G} {cd : Nat → Nat} {len : Nat} (h : mx P cd len) (hk : kp P P') : mx P' cd len := ⟨h.1, (hk.2 6 (by omega)).trans h.2.1, fun k hl => by
  rw [hk.1 4 (by omega) (by omega)]
  exact h.2.2 k hl⟩
def stt (cd : Nat → Nat) : Nat → Nat
  | 0 => 1
  | k + 1 => aft (stt cd k) (cd k)
theorem stt_lt {A : cr_G} {cd : Nat → Nat} {len : Nat} (hA : ax A cd len) : ∀ k, k ≤ len → stt cd k < 10 := by
  intro k
  induction k with
  | zero => intro _; show 1 < 10; omega
  | succ k ih =>
    intro h
    exact aft_lt _ (ih (by omega)) _ (hA.2.2 k (by omega)).2
theorem stt_0 {cd : Nat → Nat} {k : Nat} (h : stt cd k = 0) : ∀ j, stt cd (k + j) = 0 := by
  intro j
  induction j with
  | zero => exact h
  | succ j ih =>
    show aft (stt cd (k + j)) (cd (k + j)) = 0
    rw [ih, aft0]
theorem stt_ne {cd : Nat → Nat} {k l : Nat} (h : stt cd l ≠ 0) (hk : k ≤ l) : stt cd k ≠ 0 := fun e => h (by
  have h9 := stt_0 e (l - k)
  rwa [show k + (l - k) = l by omega] at h9)
theorem qc_err_s {A : cr_G} {cd : Nat → Nat} {len k s n : Nat} (hA : ax A cd len) (hs : s < 10) (hk : k < len) : s_X6_errorIndex_4 A (n + 1) (nI s) (nI k) = if aft s (cd k) = 0 then some (nI k) else s_X6_errorIndex_4 A n (nI (aft s (cd k))) (nI (k + 1)) := by
  obtain ⟨hl, h2, h3⟩ := hA
  have hck : ¬ len ≤ k := by omega
  have ha := qc_after s hs (cd k) (h3 k hk).2
  have hlt := aft_lt s hs (cd k) (h3 k hk).2
  have h4 := (h3 k hk).1
  simp (disch := omega) only [s_X6_errorIndex_4, ↓pm_bd, pm_gd, pm_lit, pm_S, h2, h4, ha, pm_cl, pm_C, hck, ↓reduceIte]
theorem qc_err_e {A : cr_G} {cd : Nat → Nat} {len n : Nat} {x : Int32} (hA : ax A cd len) : s_X6_errorIndex_4 A (n + 1) x (nI len) = some (nI len) := by
  obtain ⟨hl, h2, h3⟩ := hA
  simp (disch := omega) only [s_X6_errorIndex_4, h2, pm_C, Nat.le_refl, ↓reduceIte]
theorem qc_end : ∀ s, s < 10 → s_X6_isEndOfPart (nI s) = some (edb s) := by decide +kernel
theorem cl_some {α : Type} (o : Option α) : cr_cl o (fun r => some r) = o := by cases o <;> rfl
theorem qc_complete {A : cr_G} {cd : Nat → Nat} {len : Nat} (hA : ax A cd len) : ∀ d k n, len - k = d → d < n → k ≤ len → s_X6_isComplete_4 A n (nI (stt cd k)) (nI k) = some (edb (stt cd len)) := by
  intro d
  induction d with
  | zero =>
    intro k n hd hn hk
    obtain ⟨n, rfl⟩ : ∃ m, n = m + 1 := ⟨n - 1, by omega⟩
    obtain rfl : k = len := by omega
    have he := qc_end (stt cd k) (stt_lt hA k (by omega))
    obtain ⟨hl, h2, h3⟩ := hA
    simp (disch := omega) only [s_X6_isComplete_4, h2, pm_C, Nat.le_refl, cl_some, he, ↓reduceIte]
  | succ d ih =>
    intro k n hd hn hk
    obtain ⟨n, rfl⟩ : ∃ m, n = m + 1 := ⟨n - 1, by omega⟩
    have hck : ¬ len ≤ k := by omega
    have hs := stt_lt hA k (by omega)
    have hi := ih (k + 1) n (by omega) (by omega) (by omega)
    obtain ⟨hl, h2, h3⟩ := hA
    have ha := qc_after (stt cd k) hs (cd k) (h3 k (by omega)).2
    have h4 := (h3 k (by omega)).1
    simp (disch := omega) only [s_X6_isComplete_4, ↓pm_bd, pm_gd, pm_lit, pm_S, h2, h4, ha, pm_cl, pm_C, hck, ↓reduceIte]
    exact hi
/-! the model's reading, a letter -/
theorem rt_s {P P1 : cr_G} {cd : Nat → Nat} {len k n : Nat} (hP : mx P cd len) (hk : k < len) (h : s_X9_goes (nI (cd k)) P = some (true, P1)) : s_X9_readText_17 (n + 1) (nI k) P = s_X9_readText_17 n (nI (k + 1)) P1 := by
  obtain ⟨hl, h2, h3⟩ := hP
  have hck : ¬ len ≤ k := by omega
  have h4 := (h3 k hk).1
  simp (disch := omega) only [s_X9_readText_17, ↓pm_bd, pm_gd, pm_lit, pm_S, h2, h4, h, pm_cl, pm_C, hck, ↓reduceIte]
theorem rt_f {P P1 : cr_G} {cd : Nat → Nat} {len k n : Nat} (hP : mx P cd len) (hk : k < len) (h : s_X9_goes (nI (cd k)) P = some (false, P1)) : s_X9_readText_17 (n + 1) (nI k) P = some (nI k, P1) := by
  obtain ⟨hl, h2, h3⟩ := hP
  have hck : ¬ len ≤ k := by omega
  have h4 := (h3 k hk).1
  simp (disch := omega) only [s_X9_readText_17, ↓pm_bd, pm_gd, pm_lit, pm_S, h2, h4, h, pm_cl, pm_C, hck, ↓reduceIte, Bool.false_eq_true]
theorem rt_e0 {P : cr_G} {cd : Nat → Nat} {len n s : Nat} (hP : mx P cd len) (h9 : P 0 9 = nI s) (hs : s = 0 ∨ s = 4 ∨ s = 5) : s_X9_readText_17 (n + 1) (nI len) P = some (nI len, cr_pt P 0 13 (nI 0)) := by
  obtain ⟨hl, h2, h3⟩ := hP
  rcases hs with rfl | rfl | rfl <;> simp +decide (disch := omega) only [s_X9_readText_17, s_X9_readText_74, ↓pm_bd, pm_lit, h2, h9, pm_C, Nat.le_refl, pt_i, pt_o, ↓reduceIte]
def clw (P : cr_G) (a T : Nat) : cr_G := cr_pt (cr_pa (cr_pt P 0 13 (nI 1)) 6 (fill (P 6) a T (P 0 10))) 0 12 (nI (a + T))
theorem clw_k (P : cr_G) (a T : Nat) : kp P (clw P a T) := kp_pt (kp_pa6 (kp_pt (kp_rf P) _ (by omega)) _) _ (by omega)
theorem clw_13 (P : cr_G) (a T : Nat) : clw P a T 0 13 = nI 1 := by
  simp (disch := omega) only [clw, pt_o, pa6_0, pt_i]
theorem clw_12 (P : cr_G) (a T : Nat) : clw P a T 0 12 = nI (a + T) := pt_i _ _ _
theorem clw_6 (P : cr_G) (a T : Nat) : clw P a T 6 = fill (P 6) a T (P 0 10) := by
  rw [clw, pt_6, pm_pa]
theorem rt_e1 {P : cr_G} {cd : Nat → Nat} {len n s T a : Nat} (hP : mx P cd len) (h9 : P 0 9 = nI s) (hs : s ≤ 8) (hn : ¬ (s = 0 ∨ s = 4 ∨ s = 5)) (hT : T ≤ 1000) (ha : a ≤ 90000) (h11 : P 0 11 = nI T) (h12 : P 0 12 = nI a) : s_X9_readText_17 (n + 1) (nI len) P = some (nI len, clw P a T) := by
  obtain ⟨hl, h2, h3⟩ := hP
  have hc := qm_close (P := cr_pt P 0 13 (nI 1)) hT ha ((pt_o _ _ (by omega)).trans h11) ((pt_o _ _ (by omega)).trans h12)
  rw [pt_6, pt_o _ _ (show (10 : Nat) ≠ 13 by omega)] at hc
  have hc : s_X9_close (cr_pt P 0 13 (nI 1)) = some (clw P a T) := hc
  have h6 : clw P a T 0 6 = nI len := ((clw_k P a T).2 6 (by omega)).trans h2
  have n0 : ¬ s = 0 := by omega
  have n4 : ¬ s = 4 := by omega
  have n5 : ¬ s = 5 := by omega
  simp +decide (disch := omega) only [s_X9_readText_17, ↓pm_bd, pm_lit, h2, h9, pm_C, n0, n4, n5, Nat.le_refl, pt_i, hc, pm_cl, h6, ↓reduceIte]
theorem q_err {A : cr_G} {cd : Nat → Nat} {len : Nat} (hA : ax A cd len) : ∀ (d k n n' s T a : Nat) (P : cr_G), len - k = d → d < n → d < n' → k ≤ len → mx P cd len → stt cd k = s + 1 → P 0 9 = nI s → (s ≠ 0 → P 0 11 = nI T) → (s ≠ 0 → TB s T) → P 0 12 = nI a → a ≤ 100 * k → P 0 13 = nI 0 → ∃ (v : Int32) (P' : cr_G), s_X6_errorIndex_4 A n (nI (s + 1)) (nI k) = some v ∧ s_X9_readText_17 n' (nI k) P = some (v, P') ∧ kp P P' ∧ (edb (stt cd len) = false → P' 0 13 = nI 0) := by
  intro d
  induction d with
  | zero =>
    intro k n n' s T a P hd hn hn' hk hP hst h9 h11 hT h12 ha h13
    obtain ⟨n, rfl⟩ : ∃ m, n = m + 1 := ⟨n - 1, by omega⟩
    obtain ⟨n', rfl⟩ : ∃ m, n' = m + 1 := ⟨n' - 1, by omega⟩
    obtain rfl : k = len := by omega
    have hs9 := stt_lt hA k (by omega)
    have hl := hA.1
    by_cases e : s = 0 ∨ s = 4 ∨ s = 5
    · exact ⟨nI k, _, qc_err_e hA, rt_e0 hP h9 e, kp_pt (kp_rf P) _ (by omega), fun _ => pt_i _ _ _⟩
    · have he : edb (s + 1) = true := decide_eq_true (by omega)
      refine ⟨nI k, _, qc_err_e hA, rt_e1 hP h9 (by omega) e (by have := (hT (by omega)).1; omega) (by omega) (h11 (by omega)) h12, clw_k P a T, fun h => ?_⟩
      rw [hst, he] at h
      cases h
  | succ d ih =>
    intro k n n' s T a P hd hn hn' hk hP hst h9 h11 hT h12 ha h13
    obtain ⟨n, rfl⟩ : ∃ m, n = m + 1 := ⟨n - 1, by omega⟩
    obtain ⟨n', rfl⟩ : ∃ m, n' = m + 1 := ⟨n' - 1, by omega⟩
    have hs9 := stt_lt hA k (by omega)
    have hl := hA.1
    rw [qc_err_s (s := s + 1) hA (by omega) (show k < len by omega)]
    have hnx : stt cd (k + 1) = aft (s + 1) (cd k) := by
      show aft (stt cd k) (cd k) = _
      rw [hst]
    rcases goes_any (by omega) (hP.2.2 k (by omega)).2 h9 h11 hT h12 (by omega) with ⟨hz, P', hg, hkp, h13'⟩ | ⟨s', T', a', P', hs', hnz, hg, hkp, h13', h9', h11', hT', h12', ha'⟩
    · rw [if_pos hz, rt_f hP (by omega) hg]
      exact ⟨nI k, P', rfl, rfl, hkp, fun _ => h13'.trans h13⟩
    · rw [hnz, if_neg (by omega), rt_s hP (by omega) hg]
      obtain ⟨v, P2, e1, e2, e3, e4⟩ := ih (k + 1) n n' s' T' a' P' (by omega) (by omega) (by omega) (by omega) (mx_k hP hkp) (hnx.trans hnz) h9' h11' hT' h12' (by omega) (h13'.trans h13)
      exact ⟨v, P2, e1, e2, kp_tr hkp e3, e4⟩
