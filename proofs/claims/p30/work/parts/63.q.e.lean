/-! ### who should be first; what would be, put together -/
theorem RZ_c {S S' : cr_S} {Z : Nat → Int32} {nT nB nL nP nW h : Nat} (H : RZ S Z nT nB nL nP nW h) (h0 : S'.1 0 = S.1 0) (h9 : S'.1 9 = S.1 9) (h11 : S'.1 11 = S.1 11) : RZ S' Z nT nB nL nP nW h := by
  unfold RZ
  rw [h0, h9, h11]
  exact H
theorem aP_front {c q : Nat} {f Z : Nat → Int32} (hc : c ≤ 9) (hq : q < c) (h : aP c f Z) (h145 : Z 145 = nI c) : aP c (upd (sr f 0 1 (q + 1)) 1 (Z (146 + q))) (ins (tk Z q c) 0 (c - 1) (Z (146 + q))) := by
  intro k hk
  by_cases e0 : k = 0
  · subst e0
    rw [pm_un _ _ (by omega)]
    show sr f 0 1 (q + 1) 0 = ins (tk Z q c) 0 (c - 1) (Z (146 + q)) 145
    rw [ins_145, show c - 1 + 1 = c by omega]
    simp only [sr]
    rw [if_neg (by omega), h 0 (by omega)]
    exact h145
  · by_cases e1 : k = 1
    · subst e1
      rw [pm_u]
      show Z (146 + q) = ins (tk Z q c) 0 (c - 1) (Z (146 + q)) (146 + 0)
      rw [ins_r, if_pos rfl]
    · rw [pm_un _ _ e1, show 145 + k = 146 + (k - 1) by omega, ins_r, if_neg (by omega), if_pos (by omega), tk_r]
      simp only [sr]
      by_cases e2 : k ≤ q + 1
      · rw [if_pos (by omega), if_neg (by omega), h _ (by omega), show 145 + (k - 1) = 146 + (k - 1 - 1) by omega]
      · rw [if_neg (by omega), if_pos (by omega), h _ (by omega), show 145 + k = 146 + (k - 1 - 1 + 1) by omega]
theorem d_four {nT nL nP : Nat} {S : cr_S} {Z : Nat → Int32} (hT : nT ≤ 6) (hL : nL ≤ 10) (hP : nP ≤ 8) (h : aG nT nL nP (S.1 9) Z) : ∃ G0, aG nT nL nP G0 Z ∧ ∀ (kf : cr_S → Option (Bool × cr_S)), cr_cl (s_L_same0 (S.1 9) (S.1 10)) (fun r47_2 => cr_bd (cr_us S 10 r47_2) (fun S47_3 => cr_cl (s_L_same1 (S47_3.1 9) (S47_3.1 10)) (fun r53_4 => cr_bd (cr_us S47_3 10 r53_4) (fun S53_5 => cr_cl (s_L_same2 (S53_5.1 9) (S53_5.1 10)) (fun r60_6 => cr_bd (cr_us S53_5 10 r60_6) (fun S60_7 => cr_cl (s_L_same3 (S60_7.1 9) (S60_7.1 10)) (fun r67_8 => cr_bd (cr_us S60_7 10 r67_8) (fun S67_9 => kf S67_9)))))))) = kf (cr_us S 10 G0) := by
  refine ⟨_, a_copy (B := S.1 10) hT hL hP h, fun kf => ?_⟩
  simp (disch := omega) only [l_same0, l_same1, l_same2, l_same3, pm_cl, ↓pm_bd, cr_us_eq, cr_us_us, us_10, pm_S]
theorem d_114 (k33 : Int32 → Int32 → Int32 → Int32 → cr_S → Option (Bool × cr_S)) (x1 x13 x14 x15 x16 : Int32) : ∀ (k n : Nat) (S : cr_S), k < n → 1 ≤ k → k ≤ 8 → ∃ m, s_L_ahead_114 k33 n x1 x13 x14 x15 x16 (nI k) S = s_L_ahead_114 k33 (m + 1) x1 x13 x14 x15 x16 (nI 1) (cr_us S 10 (cr_pa (S.1 10) 2 (sr (S.1 10 2) 0 1 k))) := by
  intro k
  induction k with
  | zero => intro n S _ h _; omega
  | succ k ih =>
    intro n S hn h1 h8
    obtain ⟨n, rfl⟩ : ∃ m, n = m + 1 := ⟨n - 1, by omega⟩
    by_cases e : k = 0
    · subst e
      refine ⟨n, ?_⟩
      rw [sr_id (by omega), pm_self, cr_us_self]
    · obtain ⟨m, i1⟩ := ih n (cr_sp S 10 2 (k + 1) (S.1 10 2 k)) (by omega) (by omega) (by omega)
      refine ⟨m, ?_⟩
      have hs := sr_step0 (f := S.1 10 2) (p := 1) (c := k + 1) (by omega)
      rw [show k + 1 - 1 = k by omega] at hs
      have e2 : cr_us (cr_sp S 10 2 (k + 1) (S.1 10 2 k)) 10 (cr_pa ((cr_sp S 10 2 (k + 1) (S.1 10 2 k)).1 10) 2 (sr ((cr_sp S 10 2 (k + 1) (S.1 10 2 k)).1 10 2) 0 1 k)) = cr_us S 10 (cr_pa (S.1 10) 2 (sr (S.1 10 2) 0 1 (k + 1))) := by
        unfold cr_sp
        rw [cr_us_eq, cr_us_us, pm_pt, hs]
        unfold cr_pt
        rw [pm_papa]
      rw [e2] at i1
      rw [← i1]
      have hk1 : ¬ k + 1 ≤ 1 := by omega
      simp (disch := omega) only [s_L_ahead_114, ↓pm_m1, ↓pm_bd, pm_lit, pm_S, pm_gd, pm_C, hk1, pm_am1, Nat.add_sub_cancel, ↓reduceIte]
/-- one candidate -/
theorem d_cand {nT nB nL nP nW h q : Nat} {S : cr_S} {Z : Nat → Int32} (H : RZ S Z nT nB nL nP nW h) (hq : q < nP) (n : Nat) (x1 b l : Int32) (hb : b = mI ∨ ∃ t : Nat, t < 10 ∧ b = nI t) : ∃ (b' l' : Int32) (G' : cr_G), (b' = mI ∨ ∃ t : Nat, t < 10 ∧ b' = nI t) ∧ s_L_ahead_33 (n + 1) x1 b l (nI (q + 2)) S = s_L_ahead_33 n x1 b' l' (nI (q + 3)) (cr_us S 10 G') ∧ ∀ (Sc : cr_S) (nc : Nat), Sc.1 0 = S.1 0 → ∃ X, s_X8_bestFirst_6 (nc + 1) b l (nI q) Sc = s_X8_bestFirst_6 nc b' l' (nI (q + 1)) (cr_us Sc 1 X) := by
  have hP8 := H.P8
  obtain ⟨hf, hJ, hE, hG, hK, hT6, hh⟩ := H
  have hn := hJ.1.1
  have hL := hn.2.2.1
  have h145 := hJ.1.2.2.2.2.1
  have h70 := hJ.1.2.1
  have p0 : S.1 9 2 0 = nI nP := (hG.2.2.1 0 (by omega)).trans h145
  obtain ⟨t, ht, hzt⟩ := hJ.2.2.2.2.2.1.1 q hq
  have t10 : t < 10 := by have := hn.1; omega
  obtain ⟨G0, g1, hfour⟩ := d_four hT6 hL hP8 hG
  -- the row with the candidate first
  obtain ⟨-, -, -, hJ1⟩ := q_move (p := 0) (G := fun j i => Z (mp j i)) (fun _ _ _ => rfl) hJ hq (show 0 < nP by omega)
  have o1 : ∀ k, (k < 145 ∨ 156 ≤ k) → ins (tk Z q nP) 0 (nP - 1) (Z (146 + q)) k = Z k := fun k hk => by rw [ins_o (by omega) (by omega) hk, tk_o (by omega) hk]
  have hE1 : jE (ins (tk Z q nP) 0 (nP - 1) (Z (146 + q))) := jE_c hE (o1 _ (by omega)) (o1 _ (by omega))
  have hK1 : aK nB nW (S.1 11) (ins (tk Z q nP) 0 (nP - 1) (Z (146 + q))) := aK_c hK hn.2.1 hn.2.2.2.2 (fun k hk => o1 k (by omega))
  obtain ⟨m9, hshift⟩ := d_114 (fun x1a x13a x14a x15a Sa => s_L_ahead_33 n x1a x13a x14a x15a Sa) x1 b l (nI (q + 2)) (nI 48) (q + 1) 1200 (cr_us S 10 G0) (by omega) (by omega) (by omega)
  rw [cr_us_eq, cr_us_us] at hshift
  have hG1 : aG nT nL nP (cr_pt (cr_pa G0 2 (sr (G0 2) 0 1 (q + 1))) 2 1 (Z (146 + q))) (ins (tk Z q nP) 0 (nP - 1) (Z (146 + q))) := by
    refine ⟨?_, ?_, ?_, ?_⟩
    · rw [pm_ptne _ _ _ (by omega), pm_pan _ _ (by omega)]
      exact aT_c g1.1 hn.1 (fun k hk => o1 k (by omega))
    · rw [pm_ptne _ _ _ (by omega), pm_pan _ _ (by omega)]
      exact aL_c g1.2.1 hL (fun k hk => o1 k (by omega))
    · rw [pm_pt, pm_pa]
      exact aP_front (by omega) hq g1.2.2.1 h145
    · rw [pm_ptne _ _ _ (by omega), pm_pan _ _ (by omega)]
      exact aC_c g1.2.2.2 (fun k hk => o1 k (by omega))
  obtain ⟨nL', nP', s', G', Z', c1, c2, c3, c4, c5, c6⟩ := d_155 (nB := nB) (nW := nW) hT6 (fun x1a x13a x14a x15a Sa => s_L_ahead_33 n x1a x13a x14a x15a Sa) x1 b l (q + 2) (by omega) (by omega) 48 (by omega) 48 0 1200 (nI 0) (cr_us S 10 (cr_pt (cr_pa G0 2 (sr (G0 2) 0 1 (q + 1))) 2 1 (Z (146 + q)))) (ins (tk Z q nP) 0 (nP - 1) (Z (146 + q))) nL nP h h rfl (by omega) (by omega) (by omega) (by rw [cr_us_eq]; exact hG1) (by rw [us_10 _ _ (by omega)]; exact hK1) hJ1 hE1
  rw [cr_us_us] at c1
  have z1 : S.1 9 2 (q + 1) = Z (146 + q) := by rw [hG.2.2.1 _ (by omega), show 145 + (q + 1) = 146 + q by omega]
  -- to the end of the candidate's hours
  have law1 : s_L_ahead_33 (n + 1) x1 b l (nI (q + 2)) S = s_L_ahead_203 (fun x1a x13a x14a x15a Sa => s_L_ahead_33 n x1a x13a x14a x15a Sa) x1 b l (nI (q + 2)) (nI 48) s' (nI 48) (cr_us S 10 G') := by
    have e1 : ¬ nP + 2 ≤ q + 2 := by omega
    have e2 : ¬ q + 2 = 0 := by omega
    have e3 : ¬ q + 2 = 1 := by omega
    have e4 : ¬ q + 2 ≤ 1 := by omega
    have e5 : (if ((S.1 9 2) 0) + (2 : Int32) ≤ nI (q + 2) then (if ((S.1 9 3) 6) = 0 then (s_L_ahead_383 x1 b ((0 : Int32)) S) else (cr_cl (s_L_at ((x1 >>> ((9 : Int32) &&& 31))) (((S.1 9 3) 6))) (fun r380_1 => (s_L_ahead_383 x1 b r380_1 S)))) else (s_L_ahead_100 (fun x1a x13a x14a x15a Sa => s_L_ahead_33 n x1a x13a x14a x15a Sa) x1 b l (nI (q + 2)) ((48 : Int32)) (cr_us S 10 G0))) = s_L_ahead_100 (fun x1a x13a x14a x15a Sa => s_L_ahead_33 n x1a x13a x14a x15a Sa) x1 b l (nI (q + 2)) ((48 : Int32)) (cr_us S 10 G0) := by
      rw [p0]
      simp (disch := omega) only [pm_lit, pm_add, pm_C, e1, ↓reduceIte]
    rw [s_L_ahead_33, hfour]
    rw [p0, show (2 : Int32) = nI 2 from rfl, pm_add, if_neg (by rw [nI_leI (by omega) (by omega)]; exact e1)]
    simp (disch := omega) only [s_L_ahead_100, ↓pm_bd, pm_lit, pm_C, e2, e3, e4, pm_S, ↓reduceIte]
    rw [show q + 2 - 1 = q + 1 by omega, hshift, ← c1]
    simp (disch := omega) only [s_L_ahead_114, ↓pm_bd, pm_lit, pm_C, Nat.le_refl, pm_S, pm_gd, us_10, cr_sp, cr_us_eq, cr_us_us, z1, Nat.reduceSubDiff, ↓reduceIte]
  have law2 : ∃ b' l' : Int32, (b' = mI ∨ ∃ t : Nat, t < 10 ∧ b' = nI t) ∧ ((b = mI ∧ b' = Z (146 + q) ∧ l' = s') ∨ (¬ b = mI ∧ l ≤ s' ∧ b' = b ∧ l' = l) ∨ (¬ b = mI ∧ ¬ l ≤ s' ∧ b' = Z (146 + q) ∧ l' = s')) ∧ s_L_ahead_203 (fun x1a x13a x14a x15a Sa => s_L_ahead_33 n x1a x13a x14a x15a Sa) x1 b l (nI (q + 2)) (nI 48) s' (nI 48) (cr_us S 10 G') = s_L_ahead_262 (fun x1a x13a x14a x15a Sa => s_L_ahead_33 n x1a x13a x14a x15a Sa) x1 b' l' (nI (q + 2)) (nI 48) (cr_us S 10 G') := by
    have e3 : ¬ q + 2 = 1 := by omega
    have e4 : ¬ q + 2 ≤ 1 := by omega
    rcases hb with hb | ⟨tb, htb, hb⟩
    · refine ⟨Z (146 + q), s', Or.inr ⟨t, t10, hzt⟩, Or.inl ⟨hb, rfl, rfl⟩, ?_⟩
      have nm : (mI < nI 0) = True := eq_true pm_mlt0
      simp (disch := omega) only [s_L_ahead_203, s_L_ahead_231, ↓pm_bd, pm_lit, pm_C, e3, e4, hb, nm, pm_S, pm_gd, us_10, Nat.reduceSubDiff, z1, ↓reduceIte]
    · have ntb : ¬ tb < 0 := by omega
      have nbm : ¬ b = mI := by rw [hb, pm_ne (by omega)]; exact fun h => h
      by_cases el : l ≤ s'
      · refine ⟨b, l, Or.inr ⟨tb, htb, hb⟩, Or.inr (Or.inl ⟨nbm, el, rfl, rfl⟩), ?_⟩
        simp (disch := omega) only [s_L_ahead_203, s_L_ahead_231, ↓pm_bd, pm_lit, pm_C, e3, e4, hb, ntb, el, ↓reduceIte]
      · refine ⟨Z (146 + q), s', Or.inr ⟨t, t10, hzt⟩, Or.inr (Or.inr ⟨nbm, el, rfl, rfl⟩), ?_⟩
        simp (disch := omega) only [s_L_ahead_203, s_L_ahead_231, ↓pm_bd, pm_lit, pm_C, e3, e4, hb, ntb, el, pm_S, pm_gd, us_10, Nat.reduceSubDiff, z1, ↓reduceIte]
  obtain ⟨b', l', hb', hcase, law3⟩ := law2
  obtain ⟨a, v, -, law4, -⟩ := d_262 (S := cr_us S 10 G') (fun x1a x13a x14a x15a Sa => s_L_ahead_33 n x1a x13a x14a x15a Sa) x1 b' l' (nI (q + 2)) (nI 48) hT6 (by rw [cr_us_eq]; exact c2) c4
  refine ⟨b', l', G', hb', ?_, fun Sc nc hSc => ?_⟩
  · rw [law1, law3, law4]
    have e2 : ¬ q + 2 = 0 := by omega
    simp (disch := omega) only [s_L_ahead_331, ↓pm_bd, pm_lit, pm_C, e2, pm_S, ↓reduceIte]
  · have g8 : Sc.1 0 8 1 = nI nP := by rw [hSc]; exact (fr_p hf).trans h145
    have g9 : Sc.1 0 9 q = Z (146 + q) := by rw [hSc]; exact fr_pr hf hq
    obtain ⟨Ga, a1, a2⟩ := q_copy hn hf h70 (Sc.1 1)
    obtain ⟨Gb, b1, b2, -⟩ := q_move (p := 0) a2 hJ hq (show 0 < nP by omega)
    obtain ⟨Gc, d1, d2⟩ := c6 Gb 1200 b2 (by omega)
    have hrun : s_X2_runHours (nI 48) Gb = some (s', Gc) := by
      simp only [s_X2_runHours, pm_lit]
      exact d1
    have hck : ¬ nP ≤ q := by omega
    refine ⟨Gc, ?_⟩
    rw [← hSc] at a1
    have n1 : (1 : Nat) ≠ 0 := by omega
    rcases hcase with ⟨e1, e2, e3⟩ | ⟨e0, e1, e2, e3⟩ | ⟨e0, e1, e2, e3⟩
    · rw [e2, e3]
      simp (disch := omega) only [s_X8_bestFirst_6, ↓pm_bd, ↓pm_m1, pm_lit, pm_C, g8, hck, pm_S, pm_gd, g9, a1, pm_cl, cr_us_eq, cr_us_us, b1, hrun, e1, ↓reduceIte]
    · rw [e2, e3]
      simp (disch := omega) only [s_X8_bestFirst_6, ↓pm_bd, ↓pm_m1, pm_lit, pm_C, g8, hck, pm_S, pm_gd, g9, a1, pm_cl, cr_us_eq, cr_us_us, b1, hrun, e0, e1, ↓reduceIte]
    · rw [e2, e3]
      simp (disch := omega) only [s_X8_bestFirst_6, ↓pm_bd, ↓pm_m1, pm_lit, pm_C, g8, hck, pm_S, pm_gd, g9, a1, pm_cl, cr_us_eq, cr_us_us, b1, hrun, e0, e1, ↓reduceIte]
theorem d_best {nT nB nL nP nW h : Nat} {Z : Nat → Int32} (x1 : Int32) : ∀ (d q n : Nat) (b l : Int32) (S : cr_S), nP - q = d → d < n → q ≤ nP → (b = mI ∨ ∃ t : Nat, t < 10 ∧ b = nI t) → RZ S Z nT nB nL nP nW h → ∃ (b' l' : Int32) (S' : cr_S) (m : Nat), s_L_ahead_33 n x1 b l (nI (q + 2)) S = s_L_ahead_33 (m + 1) x1 b' l' (nI (nP + 2)) S' ∧ (∀ f, f ≠ 10 → S'.1 f = S.1 f) ∧ ∀ (Sc : cr_S) (nc : Nat), Sc.1 0 = S.1 0 → d < nc → ∃ X, s_X8_bestFirst_6 nc b l (nI q) Sc = some (b', cr_us Sc 1 X) := by
  intro d
  induction d with
  | zero =>
    intro q n b l S hd hn hq hb H
    obtain ⟨n, rfl⟩ : ∃ m, n = m + 1 := ⟨n - 1, by omega⟩
    obtain rfl : q = nP := by omega
    refine ⟨b, l, S, n, rfl, fun _ _ => rfl, fun Sc nc hSc hnc => ⟨Sc.1 1, ?_⟩⟩
    obtain ⟨nc, rfl⟩ : ∃ m, nc = m + 1 := ⟨nc - 1, by omega⟩
    have g8 : Sc.1 0 8 1 = nI q := by rw [hSc]; exact (fr_p H.1).trans H.2.1.1.2.2.2.2.1
    have hq8 := H.P8
    rw [cr_us_self]
    simp (disch := omega) only [s_X8_bestFirst_6, g8, pm_C, Nat.le_refl, ↓reduceIte]
  | succ d ih =>
    intro q n b l S hd hn hq hb H
    obtain ⟨n, rfl⟩ : ∃ m, n = m + 1 := ⟨n - 1, by omega⟩
    obtain ⟨b1, l1, G1, h1, h2, h3⟩ := d_cand H (show q < nP by omega) n x1 b l hb
    obtain ⟨b', l', S', m, i1, i2, i3⟩ := ih (q + 1) n b1 l1 (cr_us S 10 G1) (by omega) (by omega) (by omega) h1 (RZ_c H (us_10 _ _ (by omega)) (us_10 _ _ (by omega)) (us_10 _ _ (by omega)))
    refine ⟨b', l', S', m, h2.trans i1, fun f hf => by rw [i2 f hf, us_10 _ _ hf], fun Sc nc hSc hnc => ?_⟩
    obtain ⟨nc, rfl⟩ : ∃ m, nc = m + 1 := ⟨nc - 1, by omega⟩
    obtain ⟨X1, k1⟩ := h3 Sc nc hSc
    obtain ⟨X, k2⟩ := i3 (cr_us Sc 1 X1) nc (by rw [cr_us_ne _ _ (by omega), us_10 _ _ (by omega)]; exact hSc) (by omega)
    rw [cr_us_us] at k2
    exact ⟨X, k1.trans k2⟩
/-- what would be: the law finds no fault -/
theorem d_ahead {nT nB nL nP nW h : Nat} {S : cr_S} {Z : Nat → Int32} (H : RZ S Z nT nB nL nP nW h) (x1 : Int32) : ∃ S', s_L_ahead x1 S = some (true, S') ∧ ∀ f, f ≠ 1 → f ≠ 10 → S'.1 f = S.1 f := by
  have hP8 := H.P8
  have H0 := H
  obtain ⟨hf, hJ, hE, hG, hK, hT6, hh⟩ := H
  have hn := hJ.1.1
  have hL := hn.2.2.1
  have h145 := hJ.1.2.2.2.2.1
  have h70 := hJ.1.2.1
  have p0 : S.1 9 2 0 = nI nP := (hG.2.2.1 0 (by omega)).trans h145
  -- the first round: some hours
  obtain ⟨G0, g1, hfour⟩ := d_four hT6 hL hP8 hG
  obtain ⟨j60, hj60, e60⟩ := l_at x1 (m := 60) (by omega) (by omega)
  obtain ⟨nL', nP', s', G', Z', c1, c2, c3, c4, c5, c6⟩ := d_155 (nB := nB) (nW := nW) hT6 (fun x1a x13a x14a x15a Sa => s_L_ahead_33 1199 x1a x13a x14a x15a Sa) x1 mI (nI 0) 0 (by omega) (by omega) (1 + j60) (by omega) (1 + j60) 0 1200 (nI 0) (cr_us S 10 G0) Z nL nP h h rfl (by omega) (by omega) (by omega) (by rw [cr_us_eq]; exact g1) (by rw [us_10 _ _ (by omega)]; exact hK) hJ hE
  rw [cr_us_us] at c1
  obtain ⟨a, v, ha, law4, hout⟩ := d_262 (S := cr_us S 10 G') (fun x1a x13a x14a x15a Sa => s_L_ahead_33 1199 x1a x13a x14a x15a Sa) x1 mI (nI 0) (nI 0) (nI (1 + j60)) hT6 (by rw [cr_us_eq]; exact c2) c4
  -- the class's answer to it
  obtain ⟨Ga, a1, a2⟩ := q_copy hn hf h70 (S.1 1)
  obtain ⟨Gc, d1, d2⟩ := c6 Ga 1200 a2 (by omega)
  have hrun : s_X2_runHours (nI (1 + j60)) Ga = some (s', Gc) := by
    simp only [s_X2_runHours, pm_lit]
    exact d1
  have w1 := c_wi (n := 1 + j60) (lo := 1) (hi := 200) (by omega) (by omega) (by omega)
  have w2 := c_wi (n := a) (lo := 0) (hi := 8) (by omega) (by omega) (by omega)
  have hif : t_X8_ifPassed (nI (1 + j60)) (nI a) (cr_us S 10 G') = some (v, cr_us (cr_us S 10 G') 1 Gc) := by
    have n1 : (1 : Nat) ≠ 10 := by omega
    simp (disch := omega) only [t_X8_ifPassed, ↓pm_bd, pm_lit, w1, w2, pm_cl, us_10, a1, cr_us_eq, cr_us_us, hrun, hout Gc d2, ↓reduceIte]
  have round1 : s_L_ahead x1 S = s_L_ahead_33 1199 x1 mI (nI 0) (nI 1) (cr_us (cr_us S 10 G') 1 Gc) := by
    have e1 : ¬ nP + 2 ≤ 0 := by omega
    have e0 : (0 : Nat) ≤ 1 := by omega
    have n01 : ¬ (0 : Nat) = 1 := by omega
    have start : s_L_ahead x1 S = s_L_ahead_33 (1199 + 1) x1 mI (nI 0) (nI 0) S := by
      simp only [s_L_ahead, ↓pm_m1, pm_lit]
    rw [start, s_L_ahead_33, hfour]
    rw [p0, show (2 : Int32) = nI 2 from rfl, pm_add, if_neg (by rw [nI_leI (by omega) (by omega)]; exact e1)]
    simp (disch := omega) only [s_L_ahead_100, ↓pm_bd, pm_lit, pm_C, e60, pm_cl, pm_add, e0, ↓reduceIte]
    rw [c1]
    simp (disch := omega) only [s_L_ahead_203, s_L_ahead_231, pm_lit, pm_C, n01, e0, ↓reduceIte]
    rw [law4]
    simp (disch := omega) only [s_L_ahead_331, ↓pm_bd, pm_lit, pm_C, hif, pm_cl, pm_add, ↓reduceIte]
  -- the second round: until the plan is empty
  obtain ⟨S1, hS1⟩ : ∃ S1, S1 = cr_us (cr_us S 10 G') 1 Gc := ⟨_, rfl⟩
  rw [← hS1] at round1
  have o1 : ∀ f, f ≠ 1 → f ≠ 10 → S1.1 f = S.1 f := fun f h1 h2 => by rw [hS1, cr_us_ne _ _ h1, us_10 _ _ h2]
  have H1 := RZ_c H0 (o1 0 (by omega) (by omega)) (o1 9 (by omega) (by omega)) (o1 11 (by omega) (by omega))
  obtain ⟨G2, g2, hfour2⟩ := d_four hT6 hL hP8 H1.2.2.2.1
  obtain ⟨k', nP2, s2', G3, f1, f2, f3, f4, ⟨nL3, h3', g3', Z3, f7, f8⟩, f5⟩ := d_done (nB := nB) (nW := nW) hT6 (fun x1a x13a x14a x15a Sa => s_L_ahead_33 1198 x1a x13a x14a x15a Sa) x1 mI (nI 0) 500 0 1200 (nI 0) (cr_us S1 10 G2) Z nL nP h h rfl (by omega) (by omega) (by omega) (by rw [cr_us_eq]; exact g2) (by rw [us_10 _ _ (by omega)]; exact H1.2.2.2.2.1) hJ hE
  rw [cr_us_us] at f1
  obtain ⟨Gd, a3, a4⟩ := q_copy hn H1.1 h70 (S1.1 1)
  obtain ⟨X, f6⟩ := f5 (cr_us S1 10 G3) Gd 1200 a4 (by omega)
  have hdone : s_X8_doneIn (cr_us S1 10 G3) = some (if nP2 = 0 then nI k' else mI, cr_us (cr_us S1 10 G3) 1 X) := by
    simp (disch := omega) only [s_X8_doneIn, ↓pm_bd, pm_lit, us_10, a3, pm_cl]
    exact f6
  have p1 : S1.1 9 2 0 = nI nP := by rw [o1 9 (by omega) (by omega)]; exact p0
  -- its answer is the law's
  obtain ⟨S2, hS2⟩ : ∃ S2, S2 = cr_us (cr_us S1 10 G3) 1 X := ⟨_, rfl⟩
  have o2 : ∀ f, f ≠ 1 → f ≠ 10 → S2.1 f = S.1 f := fun f h1 h2 => by rw [hS2, cr_us_ne _ _ h1, us_10 _ _ h2, o1 f h1 h2]
  have H2 := RZ_c H0 (o2 0 (by omega) (by omega)) (o2 9 (by omega) (by omega)) (o2 11 (by omega) (by omega))
  have g20 : S2.1 10 2 0 = nI nP2 := by rw [hS2, cr_us_ne _ _ (by omega), cr_us_eq]; exact f4
  rw [← hS2] at hdone
  have at203 : s_L_ahead_203 (fun x1a x13a x14a x15a Sa => s_L_ahead_33 1198 x1a x13a x14a x15a Sa) x1 mI (nI 0) (nI 1) (nI 500) s2' (nI k') (cr_us S1 10 G3) = s_L_ahead_262 (fun x1a x13a x14a x15a Sa => s_L_ahead_33 1198 x1a x13a x14a x15a Sa) x1 mI (nI 0) (nI 1) (nI 500) S2 := by
    by_cases e : nP2 = 0
    · rw [if_pos e] at hdone
      have e' : nP2 ≤ 0 := by omega
      simp (disch := omega) only [s_L_ahead_203, s_L_ahead_231, pm_lit, pm_C, hdone, pm_cl, g20, e', Nat.le_refl, ↓reduceIte]
    · rw [if_neg e] at hdone
      have e' : ¬ nP2 ≤ 0 := by omega
      simp (disch := omega) only [s_L_ahead_203, s_L_ahead_231, ↓pm_m1, pm_lit, pm_C, hdone, pm_cl, g20, e', Nat.le_refl, ↓reduceIte]
  -- what the law asks of the copies there is answered
  obtain ⟨a2', v2', -, law5, -⟩ := d_262 (S := S2) (fun x1a x13a x14a x15a Sa => s_L_ahead_33 1198 x1a x13a x14a x15a Sa) x1 mI (nI 0) (nI 1) (nI 500) hT6 (by rw [hS2, cr_us_ne _ _ (by omega), cr_us_eq]; exact f7) f8
  have round2 : ∃ S3, s_L_ahead_33 1199 x1 mI (nI 0) (nI 1) S1 = s_L_ahead_33 1198 x1 mI (nI 0) (nI 2) S3 ∧ ∀ f, f ≠ 1 → f ≠ 10 → S3.1 f = S.1 f := by
    refine ⟨S2, ?_, o2⟩
    have e1 : ¬ nP + 2 ≤ 1 := by omega
    have n10 : ¬ (1 : Nat) = 0 := by omega
    rw [show (1199 : Nat) = 1198 + 1 from rfl, s_L_ahead_33, hfour2]
    rw [p1, show (2 : Int32) = nI 2 from rfl, pm_add, if_neg (by rw [nI_leI (by omega) (by omega)]; exact e1)]
    simp (disch := omega) only [s_L_ahead_100, ↓pm_bd, pm_lit, pm_C, n10, Nat.le_refl, ↓reduceIte]
    rw [f1, at203, law5]
    simp (disch := omega) only [s_L_ahead_331, ↓pm_bd, pm_lit, pm_C, n10, pm_add, ↓reduceIte]
  obtain ⟨S3, round2, o3⟩ := round2
  have H3 := RZ_c H0 (o3 0 (by omega) (by omega)) (o3 9 (by omega) (by omega)) (o3 11 (by omega) (by omega))
  -- the candidates
  obtain ⟨b', l', S4, m, k1, k2, k3⟩ := d_best x1 nP 0 1198 mI (nI 0) S3 rfl (by omega) (by omega) (Or.inl rfl) H3
  have o4 : ∀ f, f ≠ 1 → f ≠ 10 → S4.1 f = S.1 f := fun f h1 h2 => by rw [k2 f h2, o3 f h1 h2]
  obtain ⟨X4, k4⟩ := k3 S4 1200 (k2 0 (by omega)) (by omega)
  have hbest : s_X8_bestFirst S4 = some (b', cr_us S4 1 X4) := by
    simp only [s_X8_bestFirst, ↓pm_m1, pm_lit]
    exact k4
  have p4 : S4.1 9 2 0 = nI nP := by rw [o4 9 (by omega) (by omega)]; exact p0
  have h64 : S4.1 9 3 6 = nI nT := by rw [o4 9 (by omega) (by omega)]; exact (aC6 hG.2.2.2).trans h70
  obtain ⟨jH, hjH, eH⟩ := l_at (x1 >>> (nI 4 &&& 31)) (m := 8) (by omega) (by omega)
  refine ⟨cr_us S4 1 X4, ?_, fun f h1 h2 => by rw [cr_us_ne _ _ h1, o4 f h1 h2]⟩
  rw [round1, round2, k1]
  have o5 : ∀ f, f ≠ 1 → (cr_us S4 1 X4).1 f = S4.1 f := fun f h1 => cr_us_ne _ _ h1
  by_cases e : nT = 0
  · simp (disch := omega) only [s_L_ahead_33, s_L_ahead_383, ↓pm_bd, pm_lit, p4, pm_add, pm_C, Nat.le_refl, h64, e, eH, pm_cl, hbest, o5, ↓reduceIte]
  · obtain ⟨t, ht, et⟩ := l_at (x1 >>> (nI 9 &&& 31)) (m := nT) (by omega) (by omega)
    obtain ⟨res, hres⟩ := winR_ex Z nW h (Z 71 - Z (10 + t) / nI 25) (1 + jH)
    have q1 := c_window (S := cr_us S4 1 X4) (t := t) (H := 1 + jH) (by rw [o5 0 (by omega), o4 0 (by omega) (by omega)]; exact hf) hJ (by omega) ht (by omega) hres
    have q2 := l_window (nL := 0) (nP := 0) (K := S4.1 11) (G := S4.1 9) (t := t) (H := 1 + jH) hT6 (by rw [o4 9 (by omega) (by omega)]; exact hG.1) (by rw [o4 9 (by omega) (by omega)]; exact hG.2.2.2) (by rw [o4 11 (by omega) (by omega)]; exact hK) hJ.1.2.2.2.2.2.1 hJ.1.2.2.2.2.2.2 hn.2.2.2.2 (by omega) ht (by omega) hres
    simp (disch := omega) only [s_L_ahead_33, s_L_ahead_383, ↓pm_bd, pm_lit, p4, pm_add, pm_C, Nat.le_refl, h64, e, et, eH, pm_cl, hbest, o5, q1, q2, ↓reduceIte]
