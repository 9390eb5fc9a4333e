/-! ### copies -/
theorem cpy_in {f g : Nat → Int32} {n i : Nat} (h : i < n) : va_cpy f g 0 0 n i = f i := by
  unfold va_cpy
  rw [if_pos ⟨Nat.zero_le _, by omega⟩]
  congr 1
  omega
theorem q_copy_t (Go : cr_G) (nT : Nat) (hT : nT ≤ 10) (h0 : Go 0 1 = nI nT) : ∀ (d k n : Nat) (G : cr_G), nT - k = d → d < n → k ≤ nT → (∀ t i, t < k → i < 7 → G (t + 15) i = Go (t + 15) i) → ∃ (m : Nat) (G1 : cr_G), s_X2_copyFrom_2 Go n (nI k) G = s_X2_copyFrom_2 Go (m + 1) (nI nT) G1 ∧ ∀ t i, t < nT → i < 7 → G1 (t + 15) i = Go (t + 15) i := by
  intro d
  induction d with
  | zero =>
    intro k n G hd hn hk hG
    obtain ⟨n, rfl⟩ : ∃ m, n = m + 1 := ⟨n - 1, by omega⟩
    obtain rfl : k = nT := by omega
    exact ⟨n, G, rfl, hG⟩
  | succ d ih =>
    intro k n G hd hn hk hG
    obtain ⟨n, rfl⟩ : ∃ m, n = m + 1 := ⟨n - 1, by omega⟩
    have hck : ¬ nT ≤ k := by omega
    obtain ⟨m, G1, e1, e2⟩ := ih (k + 1) n (cr_pt (cr_pt (cr_pt (cr_pt (cr_pt (cr_pt (cr_pt G (k + 15) 0 (Go (k + 15) 0)) (k + 15) 1 (Go (k + 15) 1)) (k + 15) 2 (Go (k + 15) 2)) (k + 15) 3 (Go (k + 15) 3)) (k + 15) 4 (Go (k + 15) 4)) (k + 15) 5 (Go (k + 15) 5)) (k + 15) 6 (Go (k + 15) 6)) (by omega) (by omega) (by omega) (fun t i ht hi => by
      by_cases e : t = k
      · subst e
        have h9 : i = 0 ∨ i = 1 ∨ i = 2 ∨ i = 3 ∨ i = 4 ∨ i = 5 ∨ i = 6 := by omega
        rcases h9 with rfl | rfl | rfl | rfl | rfl | rfl | rfl <;> simp (disch := omega) only [pm_pt, pm_u, pm_un]
      · simp (disch := omega) only [pm_ptne]
        exact hG t i (by omega) hi)
    refine ⟨m, G1, ?_, e2⟩
    rw [← e1]
    simp (disch := omega) only [s_X2_copyFrom_2, s_X5_copyFrom, ↓pm_bd, pm_gd, pm_lit, pm_S, pm_C, h0, hck, pm_cl, ↓reduceIte]
theorem q_copy {nT nB nL nP nW : Nat} {Go : cr_G} {Z : Nat → Int32} (hn : okn nT nB nL nP nW) (hf : fr nT nB nL nP nW Go Z) (h70 : Z 70 = nI nT) (G : cr_G) : ∃ G', s_X2_copyFrom Go G = some G' ∧ fr nT nB nL nP nW G' Z := by
  obtain ⟨hT, hB, hL, hP, hW⟩ := hn
  have h0 : Go 0 1 = nI nT := (fr_n hf).trans h70
  obtain ⟨m, G1, e1, e2⟩ := q_copy_t Go nT hT h0 nT 0 1200 G rfl (by omega) (by omega) (fun t i ht => absurd ht (Nat.not_lt_zero t))
  apply Exists.intro
  apply And.intro
  · simp only [s_X2_copyFrom, pm_lit]
    rw [e1]
    simp (disch := omega) only [s_X2_copyFrom_2, s_X0_copyFrom, s_X1_copyFrom, s_X3_copyFrom, s_X4_copyFrom, s_X7_copyFrom, ↓pm_bd, pm_C, h0, Nat.le_refl, pm_cl, ↓reduceIte]
    exact rfl
  · intro j i hl
    rw [← hf j i hl]
    rcases hl with ⟨rfl, h⟩ | ⟨rfl, h⟩ | ⟨rfl, h⟩ | ⟨rfl, h⟩ | ⟨rfl, h⟩ | ⟨rfl, h⟩ | ⟨rfl, h⟩ | ⟨rfl, h⟩ | ⟨rfl, h⟩ | ⟨rfl, h⟩ | ⟨rfl, h⟩ | ⟨rfl, h⟩ | ⟨rfl, h⟩ | ⟨rfl, h⟩ | ⟨h6, h7, h⟩
    · rcases h with rfl | rfl <;> simp (disch := omega) only [pm_pt, pm_ptne, pm_pa, pm_pan, pm_u, pm_un, h0]
    · subst h; simp (disch := omega) only [pm_pt, pm_ptne, pm_pa, pm_pan, pm_u, pm_un]
    · simp (disch := omega) only [pm_pt, pm_ptne, pm_pa, pm_pan, cpy_in]
    · simp (disch := omega) only [pm_pt, pm_ptne, pm_pa, pm_pan, cpy_in]
    · subst h; simp (disch := omega) only [pm_pt, pm_ptne, pm_pa, pm_pan, pm_u, pm_un]
    · simp (disch := omega) only [pm_pt, pm_ptne, pm_pa, pm_pan, cpy_in]
    · simp (disch := omega) only [pm_pt, pm_ptne, pm_pa, pm_pan, cpy_in]
    · subst h; simp (disch := omega) only [pm_pt, pm_ptne, pm_pa, pm_pan, pm_u, pm_un]
    · simp (disch := omega) only [pm_pt, pm_ptne, pm_pa, pm_pan, cpy_in]
    · have h9 : i = 0 ∨ i = 1 ∨ i = 2 ∨ i = 3 ∨ i = 4 := by omega
      rcases h9 with rfl | rfl | rfl | rfl | rfl <;> simp (disch := omega) only [pm_pt, pm_ptne, pm_pa, pm_pan, pm_u, pm_un]
    · subst h; simp (disch := omega) only [pm_pt, pm_ptne, pm_pa, pm_pan, pm_u, pm_un]
    · simp (disch := omega) only [pm_pt, pm_ptne, pm_pa, pm_pan, cpy_in]
    · simp (disch := omega) only [pm_pt, pm_ptne, pm_pa, pm_pan, cpy_in]
    · simp (disch := omega) only [pm_pt, pm_ptne, pm_pa, pm_pan, cpy_in]
    · obtain ⟨t, rfl⟩ : ∃ t, j = t + 15 := ⟨j - 15, by omega⟩
      simp (disch := omega) only [pm_ptne, pm_pan]
      exact e2 t i (by omega) h
/-- a row counts up to 184 -/
theorem mp_lt {nT nB nL nP nW j i : Nat} (hn : okn nT nB nL nP nW) (h : lvp nT nB nL nP nW j i) : mp j i < 184 := by
  obtain ⟨h1, h2, h3, h4, h5⟩ := hn
  rcases h with ⟨rfl, h⟩ | ⟨rfl, h⟩ | ⟨rfl, h⟩ | ⟨rfl, h⟩ | ⟨rfl, h⟩ | ⟨rfl, h⟩ | ⟨rfl, h⟩ | ⟨rfl, h⟩ | ⟨rfl, h⟩ | ⟨rfl, h⟩ | ⟨rfl, h⟩ | ⟨rfl, h⟩ | ⟨rfl, h⟩ | ⟨rfl, h⟩ | ⟨h6, h7, h⟩
  · rcases h with rfl | rfl <;> decide
  · show 127 < 184; omega
  · show 128 + i < 184; omega
  · show 134 + i < 184; omega
  · show 156 < 184; omega
  · show 157 + i < 184; omega
  · show 167 + i < 184; omega
  · show 145 < 184; omega
  · show 146 + i < 184; omega
  · have h9 : i = 0 ∨ i = 1 ∨ i = 2 ∨ i = 3 ∨ i = 4 := by omega
    rcases h9 with rfl | rfl | rfl | rfl | rfl <;> decide
  · show 78 < 184; omega
  · show 79 + i < 184; omega
  · show 71 + i < 184; omega
  · show 177 + i < 184; omega
  · obtain ⟨t, rfl⟩ : ∃ t, j = t + 15 := ⟨j - 15, by omega⟩
    rw [mp_t]
    omega
theorem fr_c {nT nB nL nP nW : Nat} {G : cr_G} {Z Z' : Nat → Int32} (hn : okn nT nB nL nP nW) (hf : fr nT nB nL nP nW G Z) (h : ∀ k, k < 184 → Z' k = Z k) : fr nT nB nL nP nW G Z' := fun j i hl => by rw [hf j i hl, h _ (mp_lt hn hl)]
theorem J_c184 {nT nB nL nP nW h g : Nat} {Z Z' : Nat → Int32} (hJ : J nT nB nL nP nW h g Z) (hz : ∀ k, k < 184 → Z' k = Z k) : J nT nB nL nP nW h g Z' := J_c hJ (fun k hk => hz k (by omega))
def c184 (f g : Nat → Int32) (k : Nat) : Nat → Int32 := fun q => if k ≤ q ∧ q < 184 then f q else g q
theorem c184_step {f g : Nat → Int32} {k : Nat} (h : k < 184) : c184 f (upd g k (f k)) (k + 1) = c184 f g k := by
  funext q
  simp only [c184, upd]
  by_cases e : q = k
  · subst e
    rw [if_neg (by omega), if_pos rfl, if_pos (by omega)]
  · by_cases e2 : k ≤ q ∧ q < 184
    · rw [if_pos (by omega), if_pos e2]
    · rw [if_neg (by omega), if_neg e, if_neg e2]
theorem c184_end {f g : Nat → Int32} : c184 f g 184 = g := by
  funext q
  simp only [c184]
  rw [if_neg (by omega)]
theorem c184_in {f g : Nat → Int32} {q : Nat} (h : q < 184) : c184 f g 0 q = f q := by
  simp only [c184]
  rw [if_pos (by omega)]
theorem qm_keep_2 (M : cr_G) : ∀ (d k n : Nat) (A : Nat → Int32), 184 - k = d → d < n → k ≤ 184 → s_X9_keep_2 n (nI k) (cr_pa M 2 A) = some (cr_pa M 2 (c184 (M 1) A k)) := by
  intro d
  induction d with
  | zero =>
    intro k n A hd hn hk
    obtain ⟨n, rfl⟩ : ∃ m, n = m + 1 := ⟨n - 1, by omega⟩
    obtain rfl : k = 184 := by omega
    simp (disch := omega) only [s_X9_keep_2, pm_lit, Int32.le_refl, c184_end, ↓reduceIte]
  | succ d ih =>
    intro k n A hd hn hk
    obtain ⟨n, rfl⟩ : ∃ m, n = m + 1 := ⟨n - 1, by omega⟩
    have hck : ¬ 184 ≤ k := by omega
    simp (disch := omega) only [s_X9_keep_2, ↓pm_bd, pm_gd, pm_lit, pm_S, pm_C, hck, ↓reduceIte]
    rw [ih (k + 1) n _ (by omega) (by omega) (by omega), c184_step (by omega)]
theorem qm_keep (M : cr_G) : s_X9_keep M = some (cr_pa M 2 (c184 (M 1) (M 2) 0)) := by
  have h := qm_keep_2 M 184 0 1200 (M 2) rfl (by omega) (by omega)
  rw [pm_self] at h
  simp only [s_X9_keep, pm_lit]
  exact h
theorem qm_bring_2 (M : cr_G) : ∀ (d k n : Nat) (A : Nat → Int32), 184 - k = d → d < n → k ≤ 184 → s_X9_bring_2 n (nI k) (cr_pa M 1 A) = some (cr_pa M 1 (c184 (M 2) A k)) := by
  intro d
  induction d with
  | zero =>
    intro k n A hd hn hk
    obtain ⟨n, rfl⟩ : ∃ m, n = m + 1 := ⟨n - 1, by omega⟩
    obtain rfl : k = 184 := by omega
    simp (disch := omega) only [s_X9_bring_2, pm_lit, Int32.le_refl, c184_end, ↓reduceIte]
  | succ d ih =>
    intro k n A hd hn hk
    obtain ⟨n, rfl⟩ : ∃ m, n = m + 1 := ⟨n - 1, by omega⟩
    have hck : ¬ 184 ≤ k := by omega
    simp (disch := omega) only [s_X9_bring_2, ↓pm_bd, pm_gd, pm_lit, pm_S, pm_C, hck, ↓reduceIte]
    rw [ih (k + 1) n _ (by omega) (by omega) (by omega), c184_step (by omega)]
theorem qm_bring (M : cr_G) (Z : Nat → Int32) : s_X9_bring (cr_pa M 1 Z) = some (cr_pa M 1 (c184 (M 2) Z 0)) := by
  simp only [s_X9_bring, pm_lit]
  exact qm_bring_2 M 184 0 1200 Z rfl (by omega) (by omega)
/-- what would be: the model's scratch changes, nothing else -/
def scr (M M' : cr_G) : Prop := (∀ j, j ≠ 1 → j ≠ 2 → M' j = M j) ∧ ∀ k, k < 184 → M' 1 k = M 1 k
theorem q_after {nT nB nL nP nW h g K a : Nat} {G M : cr_G} (hf : fr nT nB nL nP nW G (M 1)) (hJ : J nT nB nL nP nW h g (M 1)) (hK : K ≤ 1000) (hh : h + K < 100000) (ha : a ≤ 8) (Gt : cr_G) : ∃ (v w : Int32) (G1 G2 M' : cr_G), s_X2_copyFrom G Gt = some G1 ∧ s_X2_runHours (nI K) G1 = some (v, G2) ∧ s_X2_outcome G2 (nI a) = some w ∧ s_X9_after (nI K) (nI a) M = some (w, M') ∧ scr M M' := by
  obtain ⟨G1, c1, c2⟩ := q_copy hJ.1.1 hf hJ.1.2.1 Gt
  have e0 : cr_pa M 2 (c184 (M 1) (M 2) 0) = cr_pa (cr_pa M 2 (c184 (M 1) (M 2) 0)) 1 (M 1) := by
    have := pm_self (cr_pa M 2 (c184 (M 1) (M 2) 0)) 1
    rw [pm_pan M _ (show (1 : Nat) ≠ 2 by omega)] at this
    exact this.symm
  obtain ⟨nL', nP', v, G2, Z', d1, d2, d3, d4⟩ := q_runHours (M := cr_pa M 2 (c184 (M 1) (M 2) 0)) c2 hJ hK hh
  obtain ⟨w, w1, w2⟩ := q_told (M := cr_pa M 2 (c184 (M 1) (M 2) 0)) d3 d4 ha
  refine ⟨v, w, G1, G2, cr_pa (cr_pa M 2 (c184 (M 1) (M 2) 0)) 1 (c184 (cr_pa M 2 (c184 (M 1) (M 2) 0) 2) Z' 0), c1, d1, w1, ?_, ?_⟩
  · simp only [s_X9_after, qm_keep, pm_cl]
    rw [e0, d2]
    simp only [pm_cl, w2, qm_bring]
    rw [← e0]
  · refine ⟨fun j h1 h2 => ?_, fun k hk => ?_⟩
    · simp (disch := omega) only [pm_pan]
    · simp (disch := omega) only [pm_pa, c184_in]
