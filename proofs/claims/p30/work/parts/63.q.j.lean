/-! ### into the plan -/
theorem l_511 (G : cr_G) (S : cr_S) (p : Nat) (x : Int32) : ∀ (d k n : Nat) (h : Nat → Int32), k - (p + 1) = d → d < n → p + 1 ≤ k → k ≤ 8 → ∃ m, s_L_act_511 n x (nI p) (nI k) (cr_us S 9 (cr_pa G 2 h)) = s_L_act_511 (m + 1) x (nI p) (nI (p + 1)) (cr_us S 9 (cr_pa G 2 (sr h 0 (p + 1) k))) := by
  intro d
  induction d with
  | zero =>
    intro k n h hd hn hk hk8
    obtain ⟨n, rfl⟩ : ∃ m, n = m + 1 := ⟨n - 1, by omega⟩
    obtain rfl : k = p + 1 := by omega
    exact ⟨n, by rw [sr_id (Nat.le_refl _)]⟩
  | succ d ih =>
    intro k n h hd hn hk hk8
    obtain ⟨n, rfl⟩ : ∃ m, n = m + 1 := ⟨n - 1, by omega⟩
    have hck : ¬ k ≤ p + 1 := by omega
    obtain ⟨m, hm⟩ := ih (k - 1) n (upd h k (h (k - 1))) (by omega) (by omega) (by omega) (by omega)
    rw [sr_step0 (by omega)] at hm
    refine ⟨m, ?_⟩
    rw [← hm]
    simp (disch := omega) only [s_L_act_511, ↓pm_bd, pm_gd, ↓pm_m1, pm_lit, pm_S, pm_C, hck, pm_am1, cr_sp, cr_us_eq, cr_us_us, ↓reduceIte]
theorem aP_ins {c p : Nat} {f Z : Nat → Int32} {x : Int32} (h : aP c f Z) (hp : p ≤ c) : aP (c + 1) (upd (sr (upd f 0 (nI (c + 1))) 0 (p + 1) (c + 1)) (p + 1) x) (ins Z p c x) := by
  intro k hk
  by_cases e0 : k = 0
  · subst e0
    rw [pm_un _ _ (by omega), show 145 + 0 = 145 from rfl, ins_145]
    simp only [sr]
    rw [if_neg (by omega), pm_u]
  · obtain ⟨i, rfl⟩ : ∃ i, k = i + 1 := ⟨k - 1, by omega⟩
    rw [show 145 + (i + 1) = 146 + i by omega, ins_r]
    by_cases e1 : i = p
    · subst e1
      rw [pm_u, if_pos rfl]
    · rw [pm_un _ _ (by omega), if_neg e1]
      simp only [sr]
      by_cases e2 : p < i
      · rw [if_pos (by omega), if_pos (by omega), pm_un _ _ (by omega), h _ (by omega)]
        exact congrArg Z (by omega)
      · rw [if_neg (by omega), if_neg (by omega), pm_un _ _ (by omega), h _ (by omega)]
        exact congrArg Z (by omega)
/-- the row: of a plan of c turbines, without this one -/
theorem a_485 {S Sq : cr_S} {Z Y : Nat → Int32} {nT nB nL nP nW h c t q : Nat} (H : RV S Z nT nB nL nP nW h c) (ht : t < nT) (hq : q < 8) (hQ : ∀ f, f < 9 → Sq.1 f = S.1 f) (h11 : Sq.1 11 = S.1 11) (hqT : q + 1 ≤ nT) (hG : aG nT nL q (Sq.1 9) Y) (hY : ∀ i, (i < 145 ∨ 156 ≤ i) → Y i = Z i) (h145 : Y 145 = nI q) (hcw : s_X4_countWithout (S.1 0) (nI t) = some (nI q)) (hmv : ∀ b, b ≤ q → ∃ G', s_X4_moveTo (nI t) (nI b) (S.1 0) = some G' ∧ fr nT nB nL (q + 1) nW G' (ins Y b q (nI t)) ∧ J nT nB nL (q + 1) nW h h (ins Y b q (nI t))) (x : Int32) : DN (s_L_act_485 x (nI t) Sq) h c := by
  have H0 := H
  obtain ⟨⟨hf, hJ, hE, -, hK, hT6, hh⟩, hP, -, hc, hc6⟩ := H
  have hn := hJ.1.1
  have g0 : Sq.1 9 2 0 = nI q := (hG.2.2.1 0 (by omega)).trans h145
  obtain ⟨b, hb, eb⟩ := l_at x (m := q + 1) (by omega) (by omega)
  obtain ⟨G', d1, d2, d3⟩ := hmv b (by omega)
  obtain ⟨Sm, hSm⟩ : ∃ Sm, Sm = cr_us Sq 9 (cr_pa (Sq.1 9) 2 (upd (sr (upd (Sq.1 9 2) 0 (nI (q + 1))) 0 (b + 1) (q + 1)) (b + 1) (nI t))) := ⟨_, rfl⟩
  have hlo : ∀ f, f < 9 → Sm.1 f = S.1 f := fun f hf => by rw [hSm, us_lo (by omega) f hf]; exact hQ f hf
  have hm9 : Sm.1 9 = cr_pa (Sq.1 9) 2 (upd (sr (upd (Sq.1 9 2) 0 (nI (q + 1))) 0 (b + 1) (q + 1)) (b + 1) (nI t)) := by rw [hSm, cr_us_eq]
  have hm11 : Sm.1 11 = S.1 11 := by rw [hSm, cr_us_ne _ _ (by omega)]; exact h11
  obtain ⟨S1, c1, e1, e2, e3, e4, e5, e6⟩ := a_sv H0 hlo
  have o : ∀ i, (i < 145 ∨ 156 ≤ i) → ins Y b q (nI t) i = Z i := fun i hi => (ins_o (by omega) (by omega) hi).trans (hY i hi)
  have o2 : ∀ i, (i < 145 ∨ 156 ≤ i) → ins Y b q (nI t) i = Y i := fun i hi => ins_o (by omega) (by omega) hi
  refine ⟨_, ?_, _, _, _, _, _, _, _, _, e6 _ _ nT nB nL (q + 1) nW h d2 d3 (jE_c hE (o _ (by omega)) (o _ (by omega))) ?_ ?_ hT6 hh, by omega, e5⟩
  · obtain ⟨m, hm⟩ := l_511 (Sq.1 9) Sq b (nI t) (q + 1 - (b + 1)) (q + 1) 1200 (upd (Sq.1 9 2) 0 (nI (q + 1))) rfl (by omega) (by omega) (by omega)
    have hlo0 := hlo 0 (by omega)
    have rq := a_req (S := Sm) (t := t) (by rw [hlo0]; exact (fr_n hf).trans hJ.1.2.1) hn.1 ht
    have w1 := c_wi (n := b) (lo := 0) (hi := q) (by omega) (by omega) (by omega)
    have g8 : G' 8 1 = nI (q + 1) := (fr_p d2).trans ins_145
    have hop : t_X8_plan (nI t) (nI b) Sm = some (nI (q + 1), cr_us S1 0 G') := by
      simp only [t_X8_plan, rq, hlo0, ↓pm_bd, pm_lit, pm_cl, hcw, w1, e1, e2, d1, cr_us_eq, g8, ↓reduceIte]
    have g92 : S1.1 9 2 0 = nI (q + 1) := by
      rw [e3 9 (by omega), hm9, pm_pa, pm_un _ _ (by omega)]
      simp only [sr]
      rw [if_neg (by omega), pm_u]
    have start : s_L_act_485 x (nI t) Sq = s_L_act_511 1200 (nI t) (nI b) (nI (q + 1)) (cr_us Sq 9 (cr_pa (Sq.1 9) 2 (upd (Sq.1 9 2) 0 (nI (q + 1))))) := by
      simp (disch := omega) only [s_L_act_485, ↓pm_bd, pm_lit, g0, pm_add, eb, pm_cl, cr_sp, cr_us_eq, pm_pt, pm_S]
      rfl
    rw [start, hm]
    simp (disch := omega) only [s_L_act_511, ↓pm_bd, pm_lit, pm_S, pm_C, Nat.le_refl, pm_gd, cr_sp, cr_us_eq, cr_us_us, ↓reduceIte]
    rw [← hSm]
    simp (disch := omega) only [hop, pm_cl, cr_us_ne _ _ (show (9 : Nat) ≠ 0 by omega), g92, ↓reduceIte]
  · rw [hm9]
    refine ⟨?_, ?_, ?_, ?_⟩
    · rw [pm_pan _ _ (by omega)]; exact aT_c hG.1 hn.1 (fun k hk => o2 k (by omega))
    · rw [pm_pan _ _ (by omega)]; exact aL_c hG.2.1 hn.2.2.1 (fun k hk => o2 k (by omega))
    · rw [pm_pa]; exact aP_ins hG.2.2.1 (by omega)
    · rw [pm_pan _ _ (by omega)]; exact aC_c hG.2.2.2 (fun k hk => o2 k (by omega))
  · rw [hm11]; exact aK_c hK hn.2.1 hn.2.2.2.2 (fun k hk => o k (by omega))
theorem a_8 {S : cr_S} {Z : Nat → Int32} {nT nB nL nP nW h c a : Nat} (H : RV S Z nT nB nL nP nW h c) (h1 : 8 ≤ a) (h2 : a < 11) (x y : Int32) : DN (s_L_act (nI a) x y S) h c := by
  have H0 := H
  have hP8 := H.1.P8
  obtain ⟨⟨hf, hJ, hE, hG, hK, hT6, hh⟩, hP, -, hc, hc6⟩ := H
  have hn := hJ.1.1
  have hPm := hn.2.2.2.1
  have h145 := hJ.1.2.2.2.2.1
  have hjP := hJ.2.2.2.2.2.1
  have hPT := jP_le hn.1 hjP
  have g8 : S.1 0 8 1 = nI nP := (fr_p hf).trans h145
  have h6 : S.1 9 3 6 = nI nT := (aC6 hG.2.2.2).trans hJ.1.2.1
  by_cases h0 : nT = 0
  · subst h0
    rw [act_T0 x y (by omega) (by omega) h6]
    exact DN_self H0
  obtain ⟨t, ht, et⟩ := l_at y (m := nT) (by omega) (by omega)
  rw [act_8 x y h1 h2 h6 hT6 h0 et]
  rcases l_spot (K := S.1 11) hf hG.2.2.1 hP8 h145 hjP (nI t) with ⟨s1, s2, s3⟩ | ⟨p, hp, hz, s1, s2⟩
  · rw [s2, pm_cl, if_pos (show mI < (0 : Int32) by decide)]
    have hroom := plan_room hn.1 hjP ht s3
    have hPT2 : nP + 1 ≤ nT := by
      have hf' : ∀ k, k < nP → ∃ u, u < nT ∧ Z (146 + k) = nI u ∧ (Z (146 + k)).toNatClampNeg = u := fun k hk => by
        obtain ⟨u, h1, h2⟩ := hjP.1 k hk
        exact ⟨u, h1, h2, by rw [h2]; exact nI_clamp (by omega)⟩
      exact l_pig nT (nP + 1) (fun k => if k = nP then t else (Z (146 + k)).toNatClampNeg) (fun k hk => by
        show (if k = nP then t else (Z (146 + k)).toNatClampNeg) < nT
        split
        · exact ht
        · obtain ⟨u, h1, -, h3⟩ := hf' k (by omega)
          omega) (fun k k' hk hk' e => by
        have e : (if k = nP then t else (Z (146 + k)).toNatClampNeg) = (if k' = nP then t else (Z (146 + k')).toNatClampNeg) := e
        split at e <;> split at e
        · omega
        · obtain ⟨u, h1, h2, h3⟩ := hf' k' (by omega)
          exact absurd (h2.trans (by rw [e, h3])) (s3 k' (by omega))
        · obtain ⟨u, h1, h2, h3⟩ := hf' k (by omega)
          exact absurd (h2.trans (by rw [← e, h3])) (s3 k (by omega))
        · obtain ⟨u, h1, h2, h3⟩ := hf' k (by omega)
          obtain ⟨u', h1', h2', h3'⟩ := hf' k' (by omega)
          exact hjP.2 k k' (by omega) (by omega) (by rw [h2, h2', ← h3, ← h3', e]))
    refine a_485 H0 ht (by omega) (fun _ _ => rfl) rfl hPT2 hG (fun _ _ => rfl) h145 ?_ (fun b hb => ?_) x
    · simp only [s_X4_countWithout, ↓pm_m1, s1, pm_cl, g8, ↓reduceIte]
    · have n1 : ¬ b < 0 := by omega
      have n2 : ¬ nP < b := by omega
      have hmv := qc_moveTo_36 (S.1 0) nP b (nI t) hroom g8 hb (nP - b) nP 1200 (S.1 0 9) rfl (by omega) hb (Nat.le_refl _)
      rw [pm_self] at hmv
      refine ⟨_, ?_, fr_ins hn hf hb hroom, J_ins hJ hb hroom ht s3⟩
      simp (disch := omega) only [s_X4_moveTo, s1, pm_cl, qc_removeAt_m, ↓pm_bd, pm_lit, g8, pm_C, n1, n2, hroom, ↓reduceIte]
      exact hmv
  · rw [s2, pm_cl, if_neg (show ¬ nI p < (0 : Int32) from fun h => by have := (nI_ltI (b := 0) (by omega) (by omega)).mp h; omega), l_off (K := S.1 11) hP8 (by omega) hp ((hG.2.2.1 0 (by omega)).trans h145), pm_cl, pm_bd]
    have hkm : ¬ nI p = mI := by rw [pm_ne (by omega)]; exact fun h => h
    have o : ∀ i, (i < 145 ∨ 156 ≤ i) → tk Z p nP i = Z i := fun i hi => tk_o hPm hi
    refine a_485 (q := nP - 1) (Y := tk Z p nP) H0 ht (by omega) (us_lo (by omega)) (by rw [cr_us_ne _ _ (by omega)]) (by omega) ?_ o tk_145 ?_ (fun b hb => ?_) x
    · rw [cr_us_eq]
      refine ⟨?_, ?_, ?_, ?_⟩
      · rw [pm_pan _ _ (by omega)]; exact aT_c hG.1 hn.1 (fun k hk => o k (by omega))
      · rw [pm_pan _ _ (by omega)]; exact aL_c hG.2.1 hn.2.2.1 (fun k hk => o k (by omega))
      · rw [pm_pa]; exact aP_off hPm hp hG.2.2.1
      · rw [pm_pan _ _ (by omega)]; exact aC_c hG.2.2.2 (fun k hk => o k (by omega))
    · simp (disch := omega) only [s_X4_countWithout, ↓pm_m1, pm_lit, s1, pm_cl, g8, hkm, pk_sub, ↓reduceIte]
    · obtain ⟨G', d1, d2, d3⟩ := q_move (q := p) (p := b) hf hJ hp (by omega)
      rw [hz] at d1 d2 d3
      rw [show nP - 1 + 1 = nP by omega]
      exact ⟨G', d1, d2, d3⟩
/-! ### hours -/
theorem l_725 {nT nB nW : Nat} (hT6 : nT ≤ 6) (K : Nat) (hK1 : K ≤ 1000) : ∀ (d k n : Nat) (s : Int32) (S : cr_S) (Z : Nat → Int32) (nL nP h g : Nat), K - k = d → d < n → k ≤ K → h + d < 100000 → aG nT nL nP (S.1 9) Z → aK nB nW (S.1 11) Z → J nT nB nL nP nW h g Z → jE Z → ∃ (m nL' nP' : Nat) (s' : Int32) (G' : cr_G) (Z' : Nat → Int32), s_L_act_725 n (nI K) s (nI k) S = s_L_act_725 (m + 1) (nI K) s' (nI K) (cr_us S 9 G') ∧ aG nT nL' nP' G' Z' ∧ aK nB nW (S.1 11) Z' ∧ J nT nB nL' nP' nW (h + d) (g + d) Z' ∧ jE Z' ∧ ∀ (Gc : cr_G) (nc : Nat), fr nT nB nL nP nW Gc Z → d < nc → ∃ Gc', s_X2_runHours_4 nc (nI K) s (nI k) Gc = some (s', Gc') ∧ fr nT nB nL' nP' nW Gc' Z' := by
  intro d
  induction d with
  | zero =>
    intro k n s S Z nL nP h g hd hn hk hh hG hKK hJ hE
    obtain ⟨n, rfl⟩ : ∃ m, n = m + 1 := ⟨n - 1, by omega⟩
    obtain rfl : k = K := by omega
    refine ⟨n, nL, nP, s, S.1 9, Z, by rw [cr_us_self], hG, hKK, hJ, hE, fun Gc nc hf hnc => ⟨Gc, ?_, hf⟩⟩
    obtain ⟨nc, rfl⟩ : ∃ m, nc = m + 1 := ⟨nc - 1, by omega⟩
    simp (disch := omega) only [s_X2_runHours_4, pm_C, Nat.le_refl, ↓reduceIte]
  | succ d ih =>
    intro k n s S Z nL nP h g hd hn hk hh hG hKK hJ hE
    obtain ⟨n, rfl⟩ : ∃ m, n = m + 1 := ⟨n - 1, by omega⟩
    have hck : ¬ K ≤ k := by omega
    obtain ⟨nL1, nP1, v1, G1, Z1, b1, b2, b3, b4, b5, b6⟩ := d_hour hT6 hG hKK hJ hE (by omega)
    obtain ⟨m, nL', nP', s', G', Z', c1, c2, c3, c4, c5, c6⟩ := ih (k + 1) n (s + v1) (cr_us S 9 G1) Z1 nL1 nP1 (h + 1) (g + 1) (by omega) (by omega) (by omega) (by omega) (by rw [cr_us_eq]; exact b2) (by rw [cr_us_ne _ _ (by omega)]; exact b3) b4 b5
    rw [cr_us_ne _ _ (by omega)] at c3
    rw [cr_us_us] at c1
    refine ⟨m, nL', nP', s', G', Z', ?_, c2, c3, ?_, c5, fun Gc nc hf hnc => ?_⟩
    · rw [← c1]
      simp (disch := omega) only [s_L_act_725, ↓pm_bd, pm_lit, pm_C, hck, b1, pm_cl, pm_add, ↓reduceIte]
    · rw [show h + (d + 1) = h + 1 + d by omega, show g + (d + 1) = g + 1 + d by omega]
      exact c4
    · obtain ⟨nc, rfl⟩ : ∃ m, nc = m + 1 := ⟨nc - 1, by omega⟩
      obtain ⟨Gc1, e1, e2⟩ := b6 Gc hf
      obtain ⟨Gc', e3, e4⟩ := c6 Gc1 nc e2 (by omega)
      refine ⟨Gc', ?_, e4⟩
      simp (disch := omega) only [s_X2_runHours_4, ↓pm_bd, pm_lit, pm_C, hck, e1, pm_cl, pm_add, ↓reduceIte]
      exact e3
theorem a_713 {S : cr_S} {Z : Nat → Int32} {nT nB nL nP nW h c m : Nat} (H : RV S Z nT nB nL nP nW h c) (hh19 : h ≤ 1900) (hm : 0 < m) (hm40 : m ≤ 40) (x : Int32) : DN (s_L_act_713 (nI m) x (nI 1) S) h c := by
  have H0 := H
  obtain ⟨⟨hf, hJ, hE, hG, hK, hT6, hh⟩, hP, -, hc, hc6⟩ := H
  have hn := hJ.1.1
  obtain ⟨j, hj, ej⟩ := l_at x (m := m) hm (by omega)
  obtain ⟨m1, nL', nP', s', G', Z', f1, f2, f3, f4, f5, f6⟩ := l_725 hT6 (1 + j) (by omega) (1 + j) 0 1200 (nI 0) S Z nL nP h h (by omega) (by omega) (by omega) (by omega) hG hK hJ hE
  have hlo : ∀ f, f < 9 → (cr_us S 9 G').1 f = S.1 f := us_lo (by omega)
  obtain ⟨S1, c1, e1, e2, e3, e4, e5, e6⟩ := a_sv H0 hlo
  obtain ⟨Gc', d1, d2⟩ := f6 (S.1 0) 1200 hf (by omega)
  refine ⟨cr_us S1 0 Gc', ?_, Z', nT, nB, nL', nP', nW, h + (1 + j), c1, e6 Gc' Z' nT nB nL' nP' nW (h + (1 + j)) d2 f4 f5 ?_ ?_ hT6 (by omega), by omega, e5⟩
  · have g09 : S.1 0 0 9 = nI h := (fr_h hf).trans hJ.1.2.2.2.2.2.2
    have w1 := c_wi (n := 1 + j) (lo := 1) (hi := 200) (by omega) (by omega) (by omega)
    have hrun : s_X2_runHours (nI (1 + j)) (S.1 0) = some (s', Gc') := by
      simp only [s_X2_runHours, pm_lit]
      exact d1
    have hle : h + (1 + j) ≤ 10000 := by omega
    have n09 : (0 : Nat) ≠ 9 := by omega
    have hop : t_X8_pass (nI (1 + j)) (cr_us S 9 G') = some (s', cr_us S1 0 Gc') := by
      simp (disch := omega) only [t_X8_pass, pm_lit, w1, pm_cl, cr_us_ne _ _ n09, g09, pm_add, pm_C, hle, e1, e2, hrun, ↓pm_bd, ↓reduceIte]
    simp (disch := omega) only [s_L_act_713, ej, pm_cl, ↓pm_bd, pm_add, pm_lit]
    rw [f1]
    simp (disch := omega) only [s_L_act_725, pm_C, Nat.le_refl, hop, pm_cl, ↓reduceIte]
  · rw [cr_us_eq]; exact f2
  · rw [cr_us_ne _ _ (by omega)]; exact f3
theorem a_14 {S : cr_S} {Z : Nat → Int32} {nT nB nL nP nW h c a : Nat} (H : RV S Z nT nB nL nP nW h c) (hh : h ≤ 1900) (h1 : 14 ≤ a) (h2 : a < 18) (x y : Int32) : DN (s_L_act (nI a) x y S) h c := by
  have h6 : S.1 9 3 6 = nI nT := (aC6 H.1.2.2.2.1.2.2.2).trans H.1.2.1.1.2.1
  have hT6 := H.1.2.2.2.2.2.1
  by_cases h0 : nT = 0
  · subst h0
    rw [act_T0 x y (by omega) (by omega) h6]
    exact DN_self H
  obtain ⟨t, ht, et⟩ := l_at y (m := nT) (by omega) (by omega)
  by_cases e : a = 14
  · rw [act_14 x y (by omega) (by omega) h6 hT6 h0 et]
    exact a_713 H hh (show 0 < 40 by omega) (by omega) x
  · rw [act_15 x y (by omega) h2 h6 hT6 h0 et]
    exact a_713 H hh (show 0 < 6 by omega) (by omega) x
