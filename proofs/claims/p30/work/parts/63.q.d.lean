/-! ### windows of wind -/
def wP (Z : Nat → Int32) (nW h : Nat) (lim : Int32) (a : Nat) : Prop := wv Z nW (h + a) ≤ lim
def win (Z : Nat → Int32) (nW h : Nat) (lim : Int32) (H k : Nat) : Prop := ∀ i, i < H → wP Z nW h lim (k + i)
def winR (Z : Nat → Int32) (nW h : Nat) (lim : Int32) (H : Nat) (res : Int32) : Prop := ((∀ k, k < 97 → ¬ win Z nW h lim H k) ∧ res = mI) ∨ ∃ k0, k0 < 97 ∧ win Z nW h lim H k0 ∧ (∀ k, k < k0 → ¬ win Z nW h lim H k) ∧ res = nI k0
theorem winR_ex (Z : Nat → Int32) (nW h : Nat) (lim : Int32) (H : Nat) : ∃ res, winR Z nW h lim H res := by
  rcases least (P := fun k => win Z nW h lim H k) (fun k => Classical.em _) 97 with h1 | ⟨p, h1, h2, h3⟩
  · exact ⟨mI, Or.inl ⟨h1, rfl⟩⟩
  · exact ⟨nI p, Or.inr ⟨p, h1, h2, h3, rfl⟩⟩
theorem c_win {nT nB nL nP nW h H : Nat} {G : cr_G} {Z : Nat → Int32} {lim res : Int32} (hf : fr nT nB nL nP nW G Z) (h78 : Z 78 = nI nW) (h182 : Z 182 = nI h) (hn : nW ≤ 48) (hh : h < 1000000) (hH : 1 ≤ H ∧ H ≤ 24) (hres : winR Z nW h lim H res) : ∀ (d a n r : Nat), 96 + H - a = d → d < n → a ≤ 96 + H → r < H → r ≤ a → (∀ i, i < r → wP Z nW h lim (a - 1 - i)) → (r < a → ¬ wP Z nW h lim (a - 1 - r)) → (∀ k, k + H ≤ a → ¬ win Z nW h lim H k) → s_X2_hoursUntilCalm_32 G n (nI H) lim (nI r) (nI a) = some res := by
  have g09 : G 0 9 = nI h := (fr_h hf).trans h182
  intro d
  induction d with
  | zero =>
    intro a n r hd hn1 ha hr hra hP hN hW
    obtain ⟨n, rfl⟩ : ∃ m, n = m + 1 := ⟨n - 1, by omega⟩
    have hck : 96 + H ≤ a := by omega
    have e : res = mI := by
      rcases hres with ⟨-, e⟩ | ⟨k0, h1, h2, -, -⟩
      · exact e
      · exact absurd h2 (hW k0 (by omega))
    rw [e]
    simp (disch := omega) only [s_X2_hoursUntilCalm_32, ↓pm_m1, pm_lit, pm_S, pm_C, hck, ↓reduceIte]
  | succ d ih =>
    intro a n r hd hn1 ha hr hra hP hN hW
    obtain ⟨n, rfl⟩ : ∃ m, n = m + 1 := ⟨n - 1, by omega⟩
    have hck : ¬ 96 + H ≤ a := by omega
    have hw := qc_at hf h78 hn (a := h + a) (by omega)
    by_cases e : lim < wv Z nW (h + a)
    · have hnp : ¬ wP Z nW h lim a := Int32.not_le.mpr e
      have i1 := ih (a + 1) n 0 (by omega) (by omega) (by omega) (by omega) (by omega) (fun i hi => by omega) (fun _ => by rw [show a + 1 - 1 - 0 = a by omega]; exact hnp) (fun k hk hwk => by
        by_cases e2 : k + H ≤ a
        · exact hW k e2 hwk
        · have h9 := hwk (H - 1) (by omega)
          rw [show k + (H - 1) = a by omega] at h9
          exact hnp h9)
      have n0 : ¬ (0 : Nat) = H := by omega
      simp (disch := omega) only [s_X2_hoursUntilCalm_32, s_X2_hoursUntilCalm_67, ↓pm_bd, pm_lit, pm_S, pm_C, hck, g09, hw, pm_cl, e, n0, ↓reduceIte]
      exact i1
    · have hp : wP Z nW h lim a := Int32.not_lt.mp e
      by_cases eH : r + 1 = H
      · have hwin : win Z nW h lim H (a + 1 - H) := fun i hi => by
          by_cases ei : i = H - 1
          · rw [show a + 1 - H + i = a by omega]
            exact hp
          · have h9 := hP (H - 2 - i) (by omega)
            rw [show a - 1 - (H - 2 - i) = a + 1 - H + i by omega] at h9
            exact h9
        have er : res = nI (a + 1 - H) := by
          rcases hres with ⟨h1, -⟩ | ⟨k0, h1, h2, h3, e9⟩
          · exact absurd hwin (h1 _ (by omega))
          · have q1 : ¬ a + 1 - H < k0 := fun h => h3 _ h hwin
            have q2 : ¬ k0 + H ≤ a := fun h => hW k0 h h2
            rw [e9, show k0 = a + 1 - H by omega]
        rw [er]
        simp (disch := omega) only [s_X2_hoursUntilCalm_32, s_X2_hoursUntilCalm_67, ↓pm_bd, pm_lit, pm_S, pm_C, hck, g09, hw, pm_cl, e, eH, ↓reduceIte]
      · have i1 := ih (a + 1) n (r + 1) (by omega) (by omega) (by omega) (by omega) (by omega) (fun i hi => by
          by_cases ei : i = 0
          · subst ei
            rw [show a + 1 - 1 - 0 = a by omega]
            exact hp
          · rw [show a + 1 - 1 - i = a - 1 - (i - 1) by omega]
            exact hP (i - 1) (by omega)) (fun h9 => by
          rw [show a + 1 - 1 - (r + 1) = a - 1 - r by omega]
          exact hN (by omega)) (fun k hk hwk => by
          by_cases e2 : k + H ≤ a
          · exact hW k e2 hwk
          · have h9 := hwk (a - 1 - r - k) (by omega)
            rw [show k + (a - 1 - r - k) = a - 1 - r by omega] at h9
            exact hN (by omega) h9)
        simp (disch := omega) only [s_X2_hoursUntilCalm_32, s_X2_hoursUntilCalm_67, ↓pm_bd, pm_lit, pm_S, pm_C, hck, g09, hw, pm_cl, e, eH, ↓reduceIte]
        exact i1
theorem c_window {nT nB nL nP nW h g t H : Nat} {S : cr_S} {Z : Nat → Int32} {res : Int32} (hf : fr nT nB nL nP nW (S.1 0) Z) (hJ : J nT nB nL nP nW h g Z) (hh : h < 1000000) (ht : t < nT) (hH : 1 ≤ H ∧ H ≤ 24) (hres : winR Z nW h (Z 71 - Z (10 + t) / nI 25) H res) : t_X8_window S (nI t) (nI H) = some res := by
  have hn := hJ.1.1
  have hT := hn.1
  have w := c_win hf hJ.1.2.2.2.2.2.1 hJ.1.2.2.2.2.2.2 hn.2.2.2.2 hh hH hres (96 + H) 0 1200 0 rfl (by omega) (by omega) (by omega) (by omega) (fun i hi => by omega) (fun h => by omega) (fun k hk => by omega)
  have wi := c_wi (n := H) (lo := 1) (hi := 24) hH.1 hH.2 (by omega)
  have hhas := qc_has ((fr_n hf).trans hJ.1.2.1) hT ht
  simp (disch := omega) only [t_X8_window, t_X8_requireTurbine, s_X2_hoursUntilCalm, ↓pm_bd, pm_lit, hhas, pm_cl, wi, pm_S, pm_gd, qc_limit hf ht, w, ↓reduceIte]
theorem l_win13 {nT nB nL nP nW h t H k : Nat} {K G : cr_G} {Z : Nat → Int32} (hT6 : nT ≤ 6) (hA : aT nT (G 0) Z) (hC : aC (G 3) Z) (hK : aK nB nW K Z) (h78 : Z 78 = nI nW) (h182 : Z 182 = nI h) (hn : nW ≤ 48) (hh : h < 1000000) (ht : t < nT) (hH : 1 ≤ H ∧ H ≤ 24) (hk : k ≤ 97) (k3 : Int32 → Int32 → Int32 → Option Int32) : ∀ (d g n : Nat), H - g = d → d < n → g ≤ H → (∀ i, i < g → wP Z nW h (Z 71 - Z (10 + t) / nI 25) (k + i)) → (win Z nW h (Z 71 - Z (10 + t) / nI 25) H k → s_L_window_13 K G k3 n (nI t) (nI H) (nI k) (nI g) = some (nI k)) ∧ (¬ win Z nW h (Z 71 - Z (10 + t) / nI 25) H k → s_L_window_13 K G k3 n (nI t) (nI H) (nI k) (nI g) = k3 (nI t) (nI H) (nI (k + 1))) := by
  have c5 : G 3 5 = nI h := (aC5 hC).trans h182
  have k0 : K 1 0 = Z 71 := hK.2.1 0 (by omega)
  have q1 := aT1 hA ht
  intro d
  induction d with
  | zero =>
    intro g n hd hn1 hg hP
    obtain ⟨n, rfl⟩ : ∃ m, n = m + 1 := ⟨n - 1, by omega⟩
    obtain rfl : g = H := by omega
    refine ⟨fun _ => ?_, fun h9 => absurd hP h9⟩
    simp (disch := omega) only [s_L_window_13, pm_C, Nat.le_refl, ↓reduceIte]
  | succ d ih =>
    intro g n hd hn1 hg hP
    obtain ⟨n, rfl⟩ : ∃ m, n = m + 1 := ⟨n - 1, by omega⟩
    have hck : ¬ H ≤ g := by omega
    have hw := l_wind (G := G) (a := h + k + g) hK.1 h78 hn (by omega)
    by_cases e : Z 71 - Z (10 + t) / nI 25 < wv Z nW (h + k + g)
    · have hnp : ¬ wP Z nW h (Z 71 - Z (10 + t) / nI 25) (k + g) := by
        unfold wP
        rw [show h + (k + g) = h + k + g by omega]
        exact Int32.not_le.mpr e
      have ng : ¬ g = H := by omega
      refine ⟨fun h9 => absurd (h9 g (by omega)) hnp, fun _ => ?_⟩
      simp (disch := omega) only [s_L_window_13, ↓pm_bd, pm_lit, pk_mul, pm_S, pm_gd, pm_C, hck, c5, hw, pm_cl, k0, q1, e, ng, ↓reduceIte]
    · have hp : wP Z nW h (Z 71 - Z (10 + t) / nI 25) (k + g) := by
        unfold wP
        rw [show h + (k + g) = h + k + g by omega]
        exact Int32.not_lt.mp e
      obtain ⟨i1, i2⟩ := ih (g + 1) n (by omega) (by omega) (by omega) (fun i hi => by
        by_cases ei : i = g
        · subst ei
          exact hp
        · exact hP i (by omega))
      refine ⟨fun h9 => ?_, fun h9 => ?_⟩
      · simp (disch := omega) only [s_L_window_13, ↓pm_bd, pm_lit, pk_mul, pm_S, pm_gd, pm_C, hck, c5, hw, pm_cl, k0, q1, e, ↓reduceIte]
        exact i1 h9
      · simp (disch := omega) only [s_L_window_13, ↓pm_bd, pm_lit, pk_mul, pm_S, pm_gd, pm_C, hck, c5, hw, pm_cl, k0, q1, e, ↓reduceIte]
        exact i2 h9
theorem l_window {nT nB nL nP nW h t H : Nat} {K G : cr_G} {Z : Nat → Int32} {res : Int32} (hT6 : nT ≤ 6) (hA : aT nT (G 0) Z) (hC : aC (G 3) Z) (hK : aK nB nW K Z) (h78 : Z 78 = nI nW) (h182 : Z 182 = nI h) (hn : nW ≤ 48) (hh : h < 1000000) (ht : t < nT) (hH : 1 ≤ H ∧ H ≤ 24) (hres : winR Z nW h (Z 71 - Z (10 + t) / nI 25) H res) : s_L_window K G (nI t) (nI H) = some res := by
  have lp : ∀ (d k n : Nat), 97 - k = d → d < n → k ≤ 97 → (∀ k', k' < k → ¬ win Z nW h (Z 71 - Z (10 + t) / nI 25) H k') → s_L_window_3 K G n (nI t) (nI H) (nI k) = some res := by
    intro d
    induction d with
    | zero =>
      intro k n hd hn1 hk hno
      obtain ⟨n, rfl⟩ : ∃ m, n = m + 1 := ⟨n - 1, by omega⟩
      obtain rfl : k = 97 := by omega
      have e : res = mI := by
        rcases hres with ⟨-, e⟩ | ⟨k0, h1, h2, -, -⟩
        · exact e
        · exact absurd h2 (hno k0 h1)
      have e2 : ((97 : Int32) ≤ nI 97) = True := eq_true (by decide)
      rw [e]
      simp only [s_L_window_3, ↓pm_m1, e2, ↓reduceIte]
    | succ d ih =>
      intro k n hd hn1 hk hno
      obtain ⟨n, rfl⟩ : ∃ m, n = m + 1 := ⟨n - 1, by omega⟩
      have e2 : ((97 : Int32) ≤ nI k) = False := eq_false (by rw [show (97 : Int32) = nI 97 from rfl, nI_leI (by omega) (by omega)]; omega)
      obtain ⟨i1, i2⟩ := l_win13 (nL := nL) (nP := nP) (k := k) hT6 hA hC hK h78 h182 hn hh ht hH (by omega) (fun x0a x1a x6a => s_L_window_3 K G n x0a x1a x6a) H 0 1200 rfl (by omega) (by omega) (fun i hi => by omega)
      by_cases e : win Z nW h (Z 71 - Z (10 + t) / nI 25) H k
      · have er : res = nI k := by
          rcases hres with ⟨h1, -⟩ | ⟨k0, h1, h2, h3, e9⟩
          · exact absurd e (h1 k (by omega))
          · have q1 : ¬ k < k0 := fun h => h3 _ h e
            have q2 : ¬ k0 < k := fun h => hno k0 h h2
            rw [e9, show k0 = k by omega]
        rw [er]
        simp only [s_L_window_3, e2, pm_lit, i1 e, ↓reduceIte]
      · have i3 := ih (k + 1) n (by omega) (by omega) (by omega) (fun k' hk' => by
          by_cases ek : k' = k
          · subst ek
            exact e
          · exact hno k' (by omega))
        simp only [s_L_window_3, e2, pm_lit, i2 e, ↓reduceIte]
        exact i3
  have h9 := lp 97 0 1200 rfl (by omega) (by omega) (fun k' hk' => by omega)
  simp only [s_L_window, pm_lit]
  exact h9
