/-! ### what would be: on copies -/
def cpF (k N : Nat) (f g : Nat → Int32) : Nat → Int32 := fun i => if k ≤ i ∧ i < N then f i else g i
theorem cpF_id {k N : Nat} {f g : Nat → Int32} (h : N ≤ k) : cpF k N f g = g := by
  funext i
  simp only [cpF]
  rw [if_neg (by omega)]
theorem cpF_step {k N : Nat} {f g : Nat → Int32} (h : k < N) : cpF (k + 1) N f (upd g k (f k)) = cpF k N f g := by
  funext i
  simp only [cpF, upd]
  repeat' split
  all_goals first | omega | (congr 1; omega) | rfl
theorem cpF_in {N i : Nat} {f g : Nat → Int32} (h : i < N) : cpF 0 N f g i = f i := if_pos ⟨by omega, h⟩
theorem l_same0_2 (Go G : cr_G) : ∀ (d k n : Nat) (h : Nat → Int32), 42 - k = d → d < n → k ≤ 42 → s_L_same0_2 Go n (nI k) (cr_pa G 0 h) = some (cr_pa G 0 (cpF k 42 (Go 0) h)) := by
  intro d
  induction d with
  | zero =>
    intro k n h hd hn hk
    obtain ⟨n, rfl⟩ : ∃ m, n = m + 1 := ⟨n - 1, by omega⟩
    have hck : 42 ≤ k := by omega
    have e : ((42 : Int32) ≤ nI k) = True := eq_true (by rw [show (42 : Int32) = nI 42 from rfl, nI_leI (by omega) (by omega)]; exact hck)
    simp only [s_L_same0_2, e, cpF_id hck, ↓reduceIte]
  | succ d ih =>
    intro k n h hd hn hk
    obtain ⟨n, rfl⟩ : ∃ m, n = m + 1 := ⟨n - 1, by omega⟩
    have hck : ¬ 42 ≤ k := by omega
    have e : ((42 : Int32) ≤ nI k) = False := eq_false (by rw [show (42 : Int32) = nI 42 from rfl, nI_leI (by omega) (by omega)]; exact hck)
    simp (disch := omega) only [s_L_same0_2, ↓pm_bd, nI_1, e, pm_S, pm_gd, ↓reduceIte]
    rw [ih (k + 1) n _ (by omega) (by omega) (by omega), cpF_step (by omega)]
theorem l_same0 (Go G : cr_G) : s_L_same0 Go G = some (cr_pa G 0 (cpF 0 42 (Go 0) (G 0))) := by
  have h := l_same0_2 Go G 42 0 1200 (G 0) rfl (by omega) (by omega)
  rw [pm_self] at h
  simp only [s_L_same0, pm_lit]
  exact h
theorem l_same1_2 (Go G : cr_G) : ∀ (d k n : Nat) (h : Nat → Int32), 22 - k = d → d < n → k ≤ 22 → s_L_same1_2 Go n (nI k) (cr_pa G 1 h) = some (cr_pa G 1 (cpF k 22 (Go 1) h)) := by
  intro d
  induction d with
  | zero =>
    intro k n h hd hn hk
    obtain ⟨n, rfl⟩ : ∃ m, n = m + 1 := ⟨n - 1, by omega⟩
    have hck : 22 ≤ k := by omega
    have e : ((22 : Int32) ≤ nI k) = True := eq_true (by rw [show (22 : Int32) = nI 22 from rfl, nI_leI (by omega) (by omega)]; exact hck)
    simp only [s_L_same1_2, e, cpF_id hck, ↓reduceIte]
  | succ d ih =>
    intro k n h hd hn hk
    obtain ⟨n, rfl⟩ : ∃ m, n = m + 1 := ⟨n - 1, by omega⟩
    have hck : ¬ 22 ≤ k := by omega
    have e : ((22 : Int32) ≤ nI k) = False := eq_false (by rw [show (22 : Int32) = nI 22 from rfl, nI_leI (by omega) (by omega)]; exact hck)
    simp (disch := omega) only [s_L_same1_2, ↓pm_bd, nI_1, e, pm_S, pm_gd, ↓reduceIte]
    rw [ih (k + 1) n _ (by omega) (by omega) (by omega), cpF_step (by omega)]
theorem l_same1 (Go G : cr_G) : s_L_same1 Go G = some (cr_pa G 1 (cpF 0 22 (Go 1) (G 1))) := by
  have h := l_same1_2 Go G 22 0 1200 (G 1) rfl (by omega) (by omega)
  rw [pm_self] at h
  simp only [s_L_same1, pm_lit]
  exact h
theorem l_same2_2 (Go G : cr_G) : ∀ (d k n : Nat) (h : Nat → Int32), 9 - k = d → d < n → k ≤ 9 → s_L_same2_2 Go n (nI k) (cr_pa G 2 h) = some (cr_pa G 2 (cpF k 9 (Go 2) h)) := by
  intro d
  induction d with
  | zero =>
    intro k n h hd hn hk
    obtain ⟨n, rfl⟩ : ∃ m, n = m + 1 := ⟨n - 1, by omega⟩
    have hck : 9 ≤ k := by omega
    have e : ((9 : Int32) ≤ nI k) = True := eq_true (by rw [show (9 : Int32) = nI 9 from rfl, nI_leI (by omega) (by omega)]; exact hck)
    simp only [s_L_same2_2, e, cpF_id hck, ↓reduceIte]
  | succ d ih =>
    intro k n h hd hn hk
    obtain ⟨n, rfl⟩ : ∃ m, n = m + 1 := ⟨n - 1, by omega⟩
    have hck : ¬ 9 ≤ k := by omega
    have e : ((9 : Int32) ≤ nI k) = False := eq_false (by rw [show (9 : Int32) = nI 9 from rfl, nI_leI (by omega) (by omega)]; exact hck)
    simp (disch := omega) only [s_L_same2_2, ↓pm_bd, nI_1, e, pm_S, pm_gd, ↓reduceIte]
    rw [ih (k + 1) n _ (by omega) (by omega) (by omega), cpF_step (by omega)]
theorem l_same2 (Go G : cr_G) : s_L_same2 Go G = some (cr_pa G 2 (cpF 0 9 (Go 2) (G 2))) := by
  have h := l_same2_2 Go G 9 0 1200 (G 2) rfl (by omega) (by omega)
  rw [pm_self] at h
  simp only [s_L_same2, pm_lit]
  exact h
theorem l_same3_2 (Go G : cr_G) : ∀ (d k n : Nat) (h : Nat → Int32), 14 - k = d → d < n → k ≤ 14 → s_L_same3_2 Go n (nI k) (cr_pa G 3 h) = some (cr_pa G 3 (cpF k 14 (Go 3) h)) := by
  intro d
  induction d with
  | zero =>
    intro k n h hd hn hk
    obtain ⟨n, rfl⟩ : ∃ m, n = m + 1 := ⟨n - 1, by omega⟩
    have hck : 14 ≤ k := by omega
    have e : ((14 : Int32) ≤ nI k) = True := eq_true (by rw [show (14 : Int32) = nI 14 from rfl, nI_leI (by omega) (by omega)]; exact hck)
    simp only [s_L_same3_2, e, cpF_id hck, ↓reduceIte]
  | succ d ih =>
    intro k n h hd hn hk
    obtain ⟨n, rfl⟩ : ∃ m, n = m + 1 := ⟨n - 1, by omega⟩
    have hck : ¬ 14 ≤ k := by omega
    have e : ((14 : Int32) ≤ nI k) = False := eq_false (by rw [show (14 : Int32) = nI 14 from rfl, nI_leI (by omega) (by omega)]; exact hck)
    simp (disch := omega) only [s_L_same3_2, ↓pm_bd, nI_1, e, pm_S, pm_gd, ↓reduceIte]
    rw [ih (k + 1) n _ (by omega) (by omega) (by omega), cpF_step (by omega)]
theorem l_same3 (Go G : cr_G) : s_L_same3 Go G = some (cr_pa G 3 (cpF 0 14 (Go 3) (G 3))) := by
  have h := l_same3_2 Go G 14 0 1200 (G 3) rfl (by omega) (by omega)
  rw [pm_self] at h
  simp only [s_L_same3, pm_lit]
  exact h

theorem a_copy {nT nL nP : Nat} {A B : cr_G} {Z : Nat → Int32} (hT : nT ≤ 6) (hL : nL ≤ 10) (hP : nP ≤ 8) (h : aG nT nL nP A Z) : aG nT nL nP (cr_pa (cr_pa (cr_pa (cr_pa B 0 (cpF 0 42 (A 0) (B 0))) 1 (cpF 0 22 (A 1) (B 1))) 2 (cpF 0 9 (A 2) (B 2))) 3 (cpF 0 14 (A 3) (B 3))) Z := by
  refine ⟨?_, ?_, ?_, ?_⟩
  · rw [pm_pan _ _ (by omega), pm_pan _ _ (by omega), pm_pan _ _ (by omega), pm_pa]
    intro t i ht hi
    rw [cpF_in (by omega)]
    exact h.1 t i ht hi
  · rw [pm_pan _ _ (by omega), pm_pan _ _ (by omega), pm_pa]
    intro b hb
    rw [cpF_in (by omega), cpF_in (by omega)]
    exact h.2.1 b hb
  · rw [pm_pan _ _ (by omega), pm_pa]
    intro k hk
    rw [cpF_in (by omega)]
    exact h.2.2.1 k hk
  · rw [pm_pa]
    intro k hk
    rw [cpF_in (by omega)]
    exact h.2.2.2 k hk
/-- an hour of the law's and of the class's -/
theorem d_hour {nT nB nL nP nW h g : Nat} {K G : cr_G} {Z : Nat → Int32} (hT6 : nT ≤ 6) (hG : aG nT nL nP G Z) (hK : aK nB nW K Z) (hJ : J nT nB nL nP nW h g Z) (hE : jE Z) (hh : h < 100000) : ∃ (nL' nP' : Nat) (v : Int32) (G' : cr_G) (Z' : Nat → Int32), s_L_hour K G = some (v, G') ∧ aG nT nL' nP' G' Z' ∧ aK nB nW K Z' ∧ J nT nB nL' nP' nW (h + 1) (g + 1) Z' ∧ jE Z' ∧ ∀ Gc : cr_G, fr nT nB nL nP nW Gc Z → ∃ Gc', s_X2_runHour Gc = some (v, Gc') ∧ fr nT nB nL' nP' nW Gc' Z' := by
  obtain ⟨nL', nP', v, G', Z', a1, a2, a3, a4, a5, a6⟩ := l_hour (M := fun _ _ => 0) hT6 hG hK hJ hE hh
  refine ⟨nL', nP', v, G', Z', a1, a3, a4, a5, a6, fun Gc hf => ?_⟩
  obtain ⟨nL0, nP0, v0, Gc', Z0, b1, b2, b3, b4⟩ := q_hour (M := fun _ _ => 0) hf hJ hh
  obtain ⟨d1, d2⟩ := l_det (b2.symm.trans a2)
  subst d1 d2
  have d3 : nL0 = nL' := (nI_eq (by have := b4.1.1.2.2.1; omega) (by have := a5.1.1.2.2.1; omega)).mp (b4.1.2.2.2.1.symm.trans a5.1.2.2.2.1)
  have d4 : nP0 = nP' := (nI_eq (by have := b4.1.1.2.2.2.1; omega) (by have := a5.1.1.2.2.2.1; omega)).mp (b4.1.2.2.2.2.1.symm.trans a5.1.2.2.2.2.1)
  subst d3 d4
  exact ⟨Gc', b1, b3⟩
theorem us_10 (S : cr_S) (G : cr_G) {f : Nat} (h : f ≠ 10) : (cr_us S 10 G).1 f = S.1 f := cr_us_ne S G h
/-- some hours on the copies -/
theorem d_155 {nT nB nW : Nat} (hT6 : nT ≤ 6) (k33 : Int32 → Int32 → Int32 → Int32 → cr_S → Option (Bool × cr_S)) (x1 x13 x14 : Int32) (p : Nat) (hp : p ≠ 1) (hp2 : p < 100) (K : Nat) (hK1 : K ≤ 1000) : ∀ (d k n : Nat) (s : Int32) (S : cr_S) (Z : Nat → Int32) (nL nP h g : Nat), K - k = d → d < n → k ≤ K → h + d < 100000 → aG nT nL nP (S.1 10) Z → aK nB nW (S.1 11) Z → J nT nB nL nP nW h g Z → jE Z → ∃ (nL' nP' : Nat) (s' : Int32) (G' : cr_G) (Z' : Nat → Int32), s_L_ahead_155 k33 n x1 x13 x14 (nI p) (nI K) s (nI k) S = s_L_ahead_203 k33 x1 x13 x14 (nI p) (nI K) s' (nI K) (cr_us S 10 G') ∧ aG nT nL' nP' G' Z' ∧ aK nB nW (S.1 11) Z' ∧ J nT nB nL' nP' nW (h + d) (g + d) Z' ∧ jE Z' ∧ ∀ (Gc : cr_G) (nc : Nat), fr nT nB nL nP nW Gc Z → d < nc → ∃ Gc', s_X2_runHours_4 nc (nI K) s (nI k) Gc = some (s', Gc') ∧ fr nT nB nL' nP' nW Gc' Z' := by
  intro d
  induction d with
  | zero =>
    intro k n s S Z nL nP h g hd hn hk hh hG hKK hJ hE
    obtain ⟨n, rfl⟩ : ∃ m, n = m + 1 := ⟨n - 1, by omega⟩
    obtain rfl : k = K := by omega
    refine ⟨nL, nP, s, S.1 10, Z, ?_, hG, hKK, hJ, hE, fun Gc nc hf hnc => ⟨Gc, ?_, hf⟩⟩
    · rw [cr_us_self]
      simp (disch := omega) only [s_L_ahead_155, pm_C, Nat.le_refl, ↓reduceIte]
    · obtain ⟨nc, rfl⟩ : ∃ m, nc = m + 1 := ⟨nc - 1, by omega⟩
      simp (disch := omega) only [s_X2_runHours_4, pm_C, Nat.le_refl, ↓reduceIte]
  | succ d ih =>
    intro k n s S Z nL nP h g hd hn hk hh hG hKK hJ hE
    obtain ⟨n, rfl⟩ : ∃ m, n = m + 1 := ⟨n - 1, by omega⟩
    have hck : ¬ K ≤ k := by omega
    obtain ⟨nL1, nP1, v1, G1, Z1, b1, b2, b3, b4, b5, b6⟩ := d_hour hT6 hG hKK hJ hE (by omega)
    obtain ⟨nL', nP', s', G', Z', c1, c2, c3, c4, c5, c6⟩ := ih (k + 1) n (s + v1) (cr_us S 10 G1) Z1 nL1 nP1 (h + 1) (g + 1) (by omega) (by omega) (by omega) (by omega) (by rw [cr_us_eq]; exact b2) (by rw [us_10 _ _ (by omega)]; exact b3) b4 b5
    rw [us_10 _ _ (by omega)] at c3
    rw [cr_us_us] at c1
    refine ⟨nL', nP', s', G', Z', ?_, c2, c3, ?_, c5, fun Gc nc hf hnc => ?_⟩
    · simp (disch := omega) only [s_L_ahead_155, s_L_ahead_175, ↓pm_bd, pm_lit, pm_C, hck, hp, b1, pm_cl, pm_add, ↓reduceIte]
      exact c1
    · rw [show h + (d + 1) = h + 1 + d by omega, show g + (d + 1) = g + 1 + d by omega]
      exact c4
    · obtain ⟨nc, rfl⟩ : ∃ m, nc = m + 1 := ⟨nc - 1, by omega⟩
      obtain ⟨Gc1, e1, e2⟩ := b6 Gc hf
      obtain ⟨Gc', e3, e4⟩ := c6 Gc1 nc e2 (by omega)
      refine ⟨Gc', ?_, e4⟩
      simp (disch := omega) only [s_X2_runHours_4, ↓pm_bd, pm_lit, pm_C, hck, e1, pm_cl, pm_add, ↓reduceIte]
      exact e3
/-- until the plan is empty -/
theorem d_done {nT nB nW : Nat} (hT6 : nT ≤ 6) (k33 : Int32 → Int32 → Int32 → Int32 → cr_S → Option (Bool × cr_S)) (x1 x13 x14 : Int32) : ∀ (d k n : Nat) (s : Int32) (S : cr_S) (Z : Nat → Int32) (nL nP h g : Nat), 500 - k = d → d < n → k ≤ 500 → h + d < 50000 → aG nT nL nP (S.1 10) Z → aK nB nW (S.1 11) Z → J nT nB nL nP nW h g Z → jE Z → ∃ (k' nP' : Nat) (s' : Int32) (G' : cr_G), s_L_ahead_155 k33 n x1 x13 x14 (nI 1) (nI 500) s (nI k) S = s_L_ahead_203 k33 x1 x13 x14 (nI 1) (nI 500) s' (nI k') (cr_us S 10 G') ∧ k' ≤ 500 ∧ nP' ≤ 10 ∧ G' 2 0 = nI nP' ∧ (∃ (nL' h' g' : Nat) (Z' : Nat → Int32), aG nT nL' nP' G' Z' ∧ J nT nB nL' nP' nW h' g' Z') ∧ ∀ (Sc : cr_S) (Gc : cr_G) (nc : Nat), fr nT nB nL nP nW Gc Z → d + 1 < nc → ∃ X, s_X8_doneIn_13 nc (nI k) (cr_us Sc 1 Gc) = some (if nP' = 0 then nI k' else mI, cr_us Sc 1 X) := by
  intro d
  induction d with
  | zero =>
    intro k n s S Z nL nP h g hd hn hk hh hG hKK hJ hE
    obtain ⟨n, rfl⟩ : ∃ m, n = m + 1 := ⟨n - 1, by omega⟩
    obtain rfl : k = 500 := by omega
    have h145 := hJ.1.2.2.2.2.1
    have hPle : nP ≤ 10 := hJ.1.1.2.2.2.1
    refine ⟨500, nP, s, S.1 10, ?_, by omega, hJ.1.1.2.2.2.1, (hG.2.2.1 0 (by omega)).trans h145, ⟨nL, h, g, Z, hG, hJ⟩, fun Sc Gc nc hf hnc => ?_⟩
    · rw [cr_us_self]
      simp (disch := omega) only [s_L_ahead_155, pm_C, Nat.le_refl, ↓reduceIte]
    · obtain ⟨nc, rfl⟩ : ∃ m, nc = m + 1 := ⟨nc - 1, by omega⟩
      obtain ⟨nc, rfl⟩ : ∃ m, nc = m + 1 := ⟨nc - 1, by omega⟩
      have g8 : Gc 8 1 = nI nP := (fr_p hf).trans h145
      have n5 : ¬ 500 < 500 := by omega
      have n6 : 500 < 500 + 1 := by omega
      by_cases e : nP = 0
      · rw [if_pos e]
        refine ⟨Gc, ?_⟩
        simp (disch := omega) only [s_X8_doneIn_13, pm_lit, pm_C, n5, cr_us_eq, g8, e, ↓reduceIte]
      · rw [if_neg e]
        obtain ⟨nL1, nP1, v1, G1, Z1, b1, b2, b3, b4, b5, b6⟩ := d_hour hT6 hG hKK hJ hE (by omega)
        obtain ⟨Gc1, e1, e2⟩ := b6 Gc hf
        refine ⟨Gc1, ?_⟩
        simp (disch := omega) only [s_X8_doneIn_13, ↓pm_bd, ↓pm_m1, pm_lit, pm_C, n5, n6, cr_us_eq, cr_us_us, g8, e, e1, pm_cl, pm_add, ↓reduceIte]
  | succ d ih =>
    intro k n s S Z nL nP h g hd hn hk hh hG hKK hJ hE
    obtain ⟨n, rfl⟩ : ∃ m, n = m + 1 := ⟨n - 1, by omega⟩
    have hck : ¬ 500 ≤ k := by omega
    have hck2 : ¬ 500 < k := by omega
    have h145 := hJ.1.2.2.2.2.1
    have hPle : nP ≤ 10 := hJ.1.1.2.2.2.1
    have h20 : S.1 10 2 0 = nI nP := (hG.2.2.1 0 (by omega)).trans h145
    by_cases e : nP = 0
    · have e' : nP ≤ 0 := by omega
      refine ⟨k, nP, s, S.1 10, ?_, by omega, by omega, h20, ⟨nL, h, g, Z, hG, hJ⟩, fun Sc Gc nc hf hnc => ?_⟩
      · rw [cr_us_self]
        simp (disch := omega) only [s_L_ahead_155, pm_lit, pm_C, hck, h20, e', ↓reduceIte]
      · obtain ⟨nc, rfl⟩ : ∃ m, nc = m + 1 := ⟨nc - 1, by omega⟩
        have g8 : Gc 8 1 = nI nP := (fr_p hf).trans h145
        rw [if_pos e]
        refine ⟨Gc, ?_⟩
        simp (disch := omega) only [s_X8_doneIn_13, pm_lit, pm_C, hck2, cr_us_eq, g8, e, ↓reduceIte]
    · have e' : ¬ nP ≤ 0 := by omega
      obtain ⟨nL1, nP1, v1, G1, Z1, b1, b2, b3, b4, b5, b6⟩ := d_hour hT6 hG hKK hJ hE (by omega)
      obtain ⟨k', nP', s', G', c1, c2, c3, c4, c49, c5⟩ := ih (k + 1) n (s + v1) (cr_us S 10 G1) Z1 nL1 nP1 (h + 1) (g + 1) (by omega) (by omega) (by omega) (by omega) (by rw [cr_us_eq]; exact b2) (by rw [us_10 _ _ (by omega)]; exact b3) b4 b5
      rw [cr_us_us] at c1
      refine ⟨k', nP', s', G', ?_, c2, c3, c4, c49, fun Sc Gc nc hf hnc => ?_⟩
      · simp (disch := omega) only [s_L_ahead_155, s_L_ahead_175, ↓pm_bd, pm_lit, pm_C, hck, h20, e', b1, pm_cl, pm_add, ↓reduceIte]
        exact c1
      · obtain ⟨nc, rfl⟩ : ∃ m, nc = m + 1 := ⟨nc - 1, by omega⟩
        have g8 : Gc 8 1 = nI nP := (fr_p hf).trans h145
        obtain ⟨Gc1, e1, e2⟩ := b6 Gc hf
        obtain ⟨X, e3⟩ := c5 Sc Gc1 nc e2 (by omega)
        refine ⟨X, ?_⟩
        simp (disch := omega) only [s_X8_doneIn_13, ↓pm_bd, pm_lit, pm_C, hck2, cr_us_eq, cr_us_us, g8, e, e1, pm_cl, pm_add, ↓reduceIte]
        exact e3
/-- what the class says of an outcome, and the law -/
theorem d_told {nT nB nL nP nW h g a : Nat} {K G : cr_G} {Z : Nat → Int32} (hT6 : nT ≤ 6) (hG : aG nT nL nP G Z) (hJ : J nT nB nL nP nW h g Z) (ha : a ≤ 8) : ∃ v : Int32, (∀ Gc : cr_G, fr nT nB nL nP nW Gc Z → s_X2_outcome Gc (nI a) = some v) ∧ ((a < 5 ∧ G 3 (9 + a) = v) ∨ (a = 5 ∧ s_L_sum K G (nI 5) = some v) ∨ (a = 6 ∧ s_L_sum K G (nI 6) = some v) ∨ (a = 7 ∧ s_L_sum K G (nI 3) = some v) ∨ (a = 8 ∧ G 2 0 = v)) := by
  have hT := hJ.1.1.1
  have h70 := hJ.1.2.1
  have h6 : G 3 6 = nI nT := (aC6 hG.2.2.2).trans h70
  by_cases e5 : a < 5
  · have n5 : ¬ a = 5 := by omega
    have n6 : ¬ a = 6 := by omega
    have n7 : ¬ a = 7 := by omega
    have n8 : ¬ a = 8 := by omega
    have n0 : ¬ a < 0 := by omega
    have n9 : ¬ 5 ≤ a := by omega
    refine ⟨Z (177 + a), fun Gc hf => ?_, Or.inl ⟨e5, aCq hG.2.2.2 e5⟩⟩
    simp +decide (disch := omega) only [s_X2_outcome, pm_lit, pm_S, pm_gd, pm_C, n5, n6, n7, n8, n9, n0, fr_q hf e5, ↓reduceIte]
  · have e : a = 5 ∨ a = 6 ∨ a = 7 ∨ a = 8 := by omega
    rcases e with rfl | rfl | rfl | rfl
    · refine ⟨sI (fun t => Z (50 + t)) nT, fun Gc hf => ?_, Or.inr (Or.inl ⟨rfl, l_sumk (k := 5) (by omega) (by omega) hT6 hG.1 h6⟩)⟩
      have l1 := q_lost hf hJ.2.2.2.2.1
      simp +decide (disch := omega) only [s_X2_outcome, pm_lit, l1, pm_cl, ↓reduceIte]
    · refine ⟨sI (fun t => Z (60 + t)) nT, fun Gc hf => ?_, Or.inr (Or.inr (Or.inl ⟨rfl, l_sumk (k := 6) (by omega) (by omega) hT6 hG.1 h6⟩))⟩
      have w1 := q_won hf hT h70
      simp +decide (disch := omega) only [s_X2_outcome, pm_lit, pm_C, w1, pm_cl, ↓reduceIte]
    · refine ⟨_, fun Gc hf => ?_, Or.inr (Or.inr (Or.inr (Or.inl ⟨rfl, l_sum3 hT6 hG.1 h6 (fun t ht => (hJ.2.2.1 t ht).2.2)⟩)))⟩
      have fc := c_faults hf hT h70
      simp +decide (disch := omega) only [s_X2_outcome, pm_lit, pm_C, fc, pm_cl, ↓reduceIte]
    · refine ⟨Z 145, fun Gc hf => ?_, Or.inr (Or.inr (Or.inr (Or.inr ⟨rfl, hG.2.2.1 0 (by omega)⟩)))⟩
      simp +decide (disch := omega) only [s_X2_outcome, pm_lit, pm_C, fr_p hf, ↓reduceIte]
/-- what is asked of the outcome: always answered -/
theorem d_262 {nT nB nL nP nW h g : Nat} {S : cr_S} {Z : Nat → Int32} (k33 : Int32 → Int32 → Int32 → Int32 → cr_S → Option (Bool × cr_S)) (x1 x13 x14 x15 x16 : Int32) (hT6 : nT ≤ 6) (hG : aG nT nL nP (S.1 10) Z) (hJ : J nT nB nL nP nW h g Z) : ∃ (a : Nat) (v : Int32), a ≤ 8 ∧ s_L_ahead_262 k33 x1 x13 x14 x15 x16 S = s_L_ahead_331 k33 x1 x13 x14 x15 x16 (nI a) v S ∧ ∀ Gc : cr_G, fr nT nB nL nP nW Gc Z → s_X2_outcome Gc (nI a) = some v := by
  obtain ⟨a, ha, ea⟩ := l_at (x1 >>> (nI 6 &&& 31)) (m := 9) (by omega) (by omega)
  obtain ⟨v, v1, v2⟩ := d_told (K := S.1 11) hT6 hG hJ (show a ≤ 8 by omega)
  refine ⟨a, v, by omega, ?_, v1⟩
  rcases v2 with ⟨q, w⟩ | ⟨rfl, w⟩ | ⟨rfl, w⟩ | ⟨rfl, w⟩ | ⟨rfl, w⟩
  · have n5 : ¬ 5 ≤ a := by omega
    simp (disch := omega) only [s_L_ahead_262, pm_lit, ea, pm_cl, pm_C, n5, pm_S, pm_gd, w, ↓reduceIte]
  · simp +decide (disch := omega) only [s_L_ahead_262, pm_lit, ea, pm_cl, pm_C, w, ↓reduceIte]
  · simp +decide (disch := omega) only [s_L_ahead_262, pm_lit, ea, pm_cl, pm_C, w, ↓reduceIte]
  · simp +decide (disch := omega) only [s_L_ahead_262, pm_lit, ea, pm_cl, pm_C, w, ↓reduceIte]
  · simp +decide (disch := omega) only [s_L_ahead_262, pm_lit, ea, pm_cl, pm_C, w, ↓reduceIte]
