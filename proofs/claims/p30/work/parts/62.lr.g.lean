/-! ### one hour, put together -/
theorem aCw_fg0 {f Z : Nat → Int32} (h : aCw f Z) : aCw (upd f 4 mI) (fg Z) := by
  have hne : ∀ k, k < 14 → k ≠ 3 → k ≠ 4 → mcs k ≠ 143 ∧ mcs k ≠ 144 := by decide
  refine ⟨fun k hk h3 => ?_, fun hn => absurd fg_144 hn⟩
  by_cases e : k = 4
  · subst e
    rw [pm_u]
    exact fg_144.symm
  · obtain ⟨q1, q2⟩ := hne k hk h3 e
    rw [pm_un _ _ e, fg_o ⟨q1, q2⟩]
    exact h.1 k hk h3
theorem pa_self03 (G : cr_G) : cr_pa (cr_pa G 0 (G 0)) 3 (G 3) = G := by
  funext j
  by_cases q1 : j = 0
  · subst q1; simp [cr_pa]
  · by_cases q2 : j = 3
    · subst q2; simp [cr_pa]
    · simp [cr_pa, q1, q2]
theorem l_drop {nT nB nL nP nW h g : Nat} {K G M : cr_G} {Z : Nat → Int32} {n : Nat} {r : Int32} (hT6 : nT ≤ 6) (hA : aT nT (G 0) Z) (hP : aP nP (G 2) Z) (hC : aC (G 3) Z) (hJ : J nT nB nL nP nW h g Z) (hE : jE Z) : ∃ (c' : Nat) (p' h' Z' : Nat → Int32), s_L_hour_9 K (n + 1) r (nI nL) G = s_L_hour_148 K (cr_pa (cr_pa G 2 p') 3 h') ∧ (if Z 145 ≤ 0 then s_X9_goHour_38 1200 (cr_pa M 1 Z) else if Z 146 = Z 144 then s_X9_goHour_38 1200 (cr_pa M 1 Z) else s_X9_goHour_38 1200 (cr_pa M 1 (fg Z))) = s_X9_goHour_99 (cr_pa M 1 Z') ∧ aP c' p' Z' ∧ aC h' Z' ∧ J nT nB nL c' nW h g Z' ∧ jE Z' ∧ ∀ k, (k < 143 ∨ 156 ≤ k) → Z' k = Z k := by
  have hn := hJ.1.1
  have h145 : Z 145 = nI nP := hJ.1.2.2.2.2.1
  have h7 : G 3 7 = nI nL := (aC7 hC).trans hJ.1.2.2.2.1
  have h20 : G 2 0 = nI nP := (hP 0 (by omega)).trans h145
  have h34 := aC4 hC
  have hP6 := jP_le hn.1 hJ.2.2.2.2.2.1
  have hL10 := hn.2.2.1
  by_cases h0 : nP = 0
  · subst h0
    obtain ⟨c', p', h', Z', b1, b2, b3⟩ := l_drop_loop K M hT6 0 1200 1200 G Z (by omega) (by omega) hA hP (aCw_of hC) hJ hE (Or.inr (Or.inr rfl))
    refine ⟨c', p', h', Z', ?_, ?_, b3⟩
    · simp (disch := omega) only [s_L_hour_9, pm_lit, h7, pm_C, Nat.le_refl, h20, ↓reduceIte]
      exact b1
    · simp (disch := omega) only [h145, pm_lit, pm_C, Nat.le_refl, ↓reduceIte]
      exact b2
  · have hc1 : ¬ nP ≤ 0 := by omega
    have h21 : G 2 1 = Z 146 := hP 1 (by omega)
    by_cases ew : Z 146 = Z 144
    · obtain ⟨c', p', h', Z', b1, b2, b3⟩ := l_drop_loop K M hT6 nP 1200 1200 G Z (by omega) (by omega) hA hP (aCw_of hC) hJ hE (Or.inr (Or.inl ⟨by omega, ew.symm⟩))
      refine ⟨c', p', h', Z', ?_, ?_, b3⟩
      · simp (disch := omega) only [s_L_hour_9, pm_lit, h7, pm_C, Nat.le_refl, h20, hc1, h21, h34, ew, ↓reduceIte]
        exact b1
      · simp (disch := omega) only [h145, pm_lit, pm_C, hc1, ew, ↓reduceIte]
        exact b2
    · obtain ⟨c', p', h', Z', b1, b2, b3, b4, b5, b6, b7⟩ := l_drop_loop K M hT6 nP 1200 1200 (cr_pa G 3 (upd (G 3) 4 mI)) (fg Z) (by omega) (by omega) (by rw [pm_pan _ _ (by omega)]; exact aT_c hA hn.1 (fun k hk => fg_o (by omega))) (by rw [pm_pan _ _ (by omega)]; exact aP_c hP (by omega) (fun k hk => fg_o (by omega))) (by rw [pm_pa]; exact aCw_fg0 (aCw_of hC)) (J_fg hJ) ⟨Or.inl fg_144, by rw [fg_o (by omega)]; exact hE.2⟩ (Or.inl fg_144)
      have hfin : cr_pa (cr_pa (cr_pa G 3 (upd (G 3) 4 mI)) 2 p') 3 h' = cr_pa (cr_pa G 2 p') 3 h' := by
        funext j
        simp only [cr_pa]
        by_cases q1 : j = 3 <;> by_cases q2 : j = 2 <;> simp [q1, q2]
      rw [hfin] at b1
      refine ⟨c', p', h', Z', ?_, ?_, b3, b4, b5, b6, fun k hk => by rw [b7 k hk, fg_o (by omega)]⟩
      · rw [← b1]
        have ew' : ¬ G 2 1 = G 3 4 := by rw [h21, h34]; exact ew
        simp (disch := omega) only [s_L_hour_9, ↓pm_m1, ↓pm_bd, pm_lit, h7, pm_C, Nat.le_refl, h20, hc1, ew', ↓reduceIte]
        rfl
      · simp (disch := omega) only [h145, pm_lit, pm_C, hc1, ew, ↓reduceIte]
        exact b2
theorem wz_t {t : Nat} (ht : t < 10) : ∀ (d k : Nat) (Z : Nat → Int32), k + d ≤ 10 → wz (nI t) 4 d k Z (30 + t) = Z (30 + t) := by
  intro d
  induction d with
  | zero => intro k Z _; rfl
  | succ d ih =>
    intro k Z h
    rw [wz, ih _ _ (by omega)]
    by_cases e : k = t
    · subst e
      have h4 : cau (nI k) 4 k = 4 := by unfold cau; rw [if_pos rfl]
      unfold wos
      rw [if_pos (Or.inl h4)]
    · exact wos_o (by omega) (by omega)
theorem l_529 {nT nL nP : Nat} {K G : cr_G} {W : Nat → Int32} (s : Int32) (hT : nT ≤ 10) (hL : nL ≤ 10) (hP : nP ≤ 10) (h0 : aT nT (G 0) W) (h1 : aL nL (G 1) W) (h2 : aP nP (G 2) W) (h3 : aC (G 3) W) : ∃ G', s_L_hour_529 K s G = some (s, G') ∧ aG nT nL nP G' (upd W 182 (W 182 + nI 1)) := by
  refine ⟨cr_pa G 3 (upd (G 3) 5 (W 182 + nI 1)), ?_, ?_, ?_, ?_, ?_⟩
  · simp (disch := omega) only [s_L_hour_529, ↓pm_bd, pm_lit, pt_def, aC5 h3]
  · rw [pm_pan _ _ (by omega)]
    exact aT_c h0 hT (fun k hk => pm_un _ _ (by omega))
  · rw [pm_pan _ _ (by omega)]
    exact aL_c h1 hL (fun k hk => pm_un _ _ (by omega))
  · rw [pm_pan _ _ (by omega)]
    exact aP_c h2 hP (fun k hk => pm_un _ _ (by omega))
  · rw [pm_pa]
    exact aC_u (k0 := 5) _ h3 (by omega)
theorem l_hour {nT nB nL nP nW h g : Nat} {K G M : cr_G} {Z : Nat → Int32} (hT6 : nT ≤ 6) (hG : aG nT nL nP G Z) (hK : aK nB nW K Z) (hJ : J nT nB nL nP nW h g Z) (hE : jE Z) (hh : h < 100000) : ∃ (nL' nP' : Nat) (v : Int32) (G' : cr_G) (Z' : Nat → Int32), s_L_hour K G = some (v, G') ∧ s_X9_goHour (cr_pa M 1 Z) = some (v, cr_pa M 1 Z') ∧ aG nT nL' nP' G' Z' ∧ aK nB nW K Z' ∧ J nT nB nL' nP' nW (h + 1) (g + 1) Z' ∧ jE Z' := by
  obtain ⟨nL0, nP0, v0, G0', Z0, -, hm0, -, hJ0⟩ := q_hour (G := fun j i => Z (mp j i)) (M := M) (fun _ _ _ => rfl) hJ hh
  have hn := hJ.1.1
  have hT10 := hn.1
  have hB6 := hn.2.1
  have hL := hn.2.2.1
  have hW48 := hn.2.2.2.2
  have fin : ∀ (nL' nP' : Nat) (v : Int32) (G' : cr_G) (Z' : Nat → Int32), nL' ≤ 10 → nP' ≤ 10 → Z' 156 = nI nL' → Z' 145 = nI nP' → s_L_hour K G = some (v, G') → s_X9_goHour (cr_pa M 1 Z) = some (v, cr_pa M 1 Z') → aG nT nL' nP' G' Z' → (∀ k, 71 ≤ k ∧ k < 140 → Z' k = Z k) → jE Z' → ∃ (nL' nP' : Nat) (v : Int32) (G' : cr_G) (Z' : Nat → Int32), s_L_hour K G = some (v, G') ∧ s_X9_goHour (cr_pa M 1 Z) = some (v, cr_pa M 1 Z') ∧ aG nT nL' nP' G' Z' ∧ aK nB nW K Z' ∧ J nT nB nL' nP' nW (h + 1) (g + 1) Z' ∧ jE Z' := by
    intro nL' nP' v G' Z' q1 q2 q3 q4 e1 e2 e3 e4 e5
    obtain ⟨-, d2⟩ := l_det (hm0.symm.trans e2)
    subst d2
    have d3 : nL0 = nL' := (nI_eq (by have := hJ0.1.1.2.2.1; omega) (by omega)).mp (hJ0.1.2.2.2.1.symm.trans q3)
    have d4 : nP0 = nP' := (nI_eq (by have := hJ0.1.1.2.2.2.1; omega) (by omega)).mp (hJ0.1.2.2.2.2.1.symm.trans q4)
    subst d3 d4
    exact ⟨nL0, nP0, v, G', Z0, e1, e2, e3, aK_c hK hB6 hW48 e4, hJ0, e5⟩
  obtain ⟨hA, hL9, hP9, hC⟩ := hG
  -- the harbour
  obtain ⟨m, r', h1, Z1, u1, u2, u3, u4⟩ := l_unload_loop K M hL nL 0 1200 1200 (Z 76) G Z rfl (by omega) (by omega) (by omega) hL9 ((aC7 hC).trans hJ.1.2.2.2.1) hJ.1.2.2.2.1
  have hJ1 : J nT nB nL nP nW h g Z1 := J_c hJ (fun k hk => u4 k (by omega))
  have hE1 : jE Z1 := jE_c hE (u4 _ (by omega)) (u4 _ (by omega))
  have hA1 : aT nT ((cr_pa G 1 h1) 0) Z1 := by rw [pm_pan _ _ (by omega)]; exact aT_c hA hT10 (fun k hk => u4 k (by omega))
  have hP1 : aP nP ((cr_pa G 1 h1) 2) Z1 := by rw [pm_pan _ _ (by omega)]; exact aP_c hP9 hn.2.2.2.1 (fun k hk => u4 k (by omega))
  have hC1 : aC ((cr_pa G 1 h1) 3) Z1 := by rw [pm_pan _ _ (by omega)]; exact aC_c hC (fun k hk => u4 k (by omega))
  have um : s_X9_unload (cr_pa M 1 Z) = some (cr_pa M 1 Z1) := by
    simp only [s_X9_unload, ↓pm_bd, pm_lit, pm_pa]
    exact u2
  have lh : s_L_hour K G = s_L_hour_9 K (m + 1) r' (nI nL) (cr_pa G 1 h1) := by
    rw [← u1]
    simp only [s_L_hour, ↓pm_bd, pm_lit, hK.2.1 5 (by omega)]
  -- the plan
  obtain ⟨c', p', h3, Z3, d1, d2, d3, d4, d5, d6, d7⟩ := l_drop (K := K) (M := M) (n := m) (r := r') hT6 hA1 hP1 hC1 hJ1 hE1
  have mh : s_X9_goHour (cr_pa M 1 Z) = s_X9_goHour_99 (cr_pa M 1 Z3) := (q_hour_m um).trans d2
  have lh3 := lh.trans d1
  have o3 : ∀ k, (k < 143 ∨ (156 ≤ k ∧ k < 167) ∨ 177 ≤ k) → Z3 k = Z k := fun k hk => by rw [d7 k (by omega), u4 k (by omega)]
  have hcP := jP_le hT10 d5.2.2.2.2.2.1
  obtain ⟨G3, hG3⟩ : ∃ G3, G3 = cr_pa (cr_pa (cr_pa G 1 h1) 2 p') 3 h3 := ⟨_, rfl⟩
  rw [← hG3] at lh3
  have g30 : G3 0 = G 0 := by rw [hG3, pm_pan _ _ (by omega), pm_pan _ _ (by omega), pm_pan _ _ (by omega)]
  have g31 : G3 1 = h1 := by rw [hG3, pm_pan _ _ (by omega), pm_pan _ _ (by omega), pm_pa]
  have g32 : G3 2 = p' := by rw [hG3, pm_pan _ _ (by omega), pm_pa]
  have g33 : G3 3 = h3 := by rw [hG3, pm_pa]
  have hA3 : aT nT (G3 0) Z3 := by rw [g30]; exact aT_c hA hT10 (fun k hk => o3 k (by omega))
  have hL3 : aL nL (G3 1) Z3 := by rw [g31]; exact aL_c u3 hL (fun k hk => d7 k (by omega))
  have hP3 : aP c' (G3 2) Z3 := by rw [g32]; exact d3
  have hC3 : aC (G3 3) Z3 := by rw [g33]; exact d4
  have hK3 : aK nB nW K Z3 := aK_c hK hB6 hW48 (fun k hk => o3 k (by omega))
  have h182 : Z3 182 = nI h := d5.1.2.2.2.2.2.2
  have h78 : Z3 78 = nI nW := d5.1.2.2.2.2.2.1
  obtain ⟨x, hx, hwx⟩ := wv_bd (a := h) d5.2.2.2.2.2.2.2.2.1
  have hwl := l_wind (G := G3) hK3.1 h78 hW48 (show h < 2 ^ 31 by omega)
  have hwm := qm_windAt (M := M) (a := h) h78 hW48 (by omega)
  rw [hwx] at hwl hwm
  have h20 : G3 2 0 = nI c' := (hP3 0 (by omega)).trans d5.1.2.2.2.2.1
  have h145 : Z3 145 = nI c' := d5.1.2.2.2.2.1
  -- the rest of the hour, when nothing is finished
  have rest : ∀ (x1 : Int32) (c : Nat) (h4 Z4 : Nat → Int32), c ≤ 4 → aC h4 Z4 → J nT nB nL c' nW h g Z4 → jE Z4 → (∀ k, (k < 140 ∨ 145 ≤ k) → Z4 k = Z3 k) → s_L_hour K G = s_L_hour_205 K 1200 (nI x) x1 (nI c) (nI 0) (nI 0) (cr_pa G3 3 h4) → s_X9_goHour (cr_pa M 1 Z) = s_X9_goHour_158 1200 x1 (nI x) (nI c) (nI 0) (nI 0) (cr_pa M 1 Z4) → (c = 4 → 0 < c' ∧ ∃ t, t < nT ∧ x1 = nI t ∧ ∃ p, p < nL ∧ mzb Z4 (nI t) p = true ∧ ∀ i, i < p → mzb Z4 (nI t) i = false) → ∃ (nL' nP' : Nat) (v : Int32) (G' : cr_G) (Z' : Nat → Int32), s_L_hour K G = some (v, G') ∧ s_X9_goHour (cr_pa M 1 Z) = some (v, cr_pa M 1 Z') ∧ aG nT nL' nP' G' Z' ∧ aK nB nW K Z' ∧ J nT nB nL' nP' nW (h + 1) (g + 1) Z' ∧ jE Z' := by
    intro x1 c h4 Z4 hc hC4 hJ4 hE4 o4 el em hfour
    have h70 : Z4 70 = nI nT := hJ4.1.2.1
    have hF4 : jF nT Z4 := fun t ht => (hJ4.2.2.1 t ht).2
    have hA4 : aT nT (G3 0) Z4 := aT_c hA3 hT10 (fun k hk => o4 k (by omega))
    have hL4 : aL nL (G3 1) Z4 := aL_c hL3 hL (fun k hk => o4 k (by omega))
    have hP4 : aP c' (G3 2) Z4 := aP_c hP3 (by omega) (fun k hk => o4 k (by omega))
    have k13 : K 1 3 = Z4 74 := by rw [o4 _ (by omega)]; exact hK3.2.1 3 (by omega)
    have k12 : K 1 2 = Z4 73 := by rw [o4 _ (by omega)]; exact hK3.2.1 2 (by omega)
    obtain ⟨ml, a', b', s1, s2', s3⟩ := l_share K (cr_pa G3 3 h4) hT6 x1 c x hc hx nT 0 1200 (nI 0) (G3 0) h4 Z4 rfl (by omega) (by omega) hA4 hC4 h70 k13 hF4
    obtain ⟨mm, t1⟩ := m_share M hT10 x1 c x hc hx nT 0 1200 (nI 0) Z4 rfl (by omega) (by omega) h70 hF4
    have hself : cr_pa (cr_pa (cr_pa G3 3 h4) 0 (G3 0)) 3 h4 = cr_pa G3 3 h4 := by
      have := pa_self03 (cr_pa G3 3 h4)
      rw [pm_pa, pm_pan _ _ (by omega)] at this
      exact this
    rw [hself] at s1
    obtain ⟨e1, e2⟩ := mz_eq (x1 := x1) (x := x) hc nT 0 (nI 0) Z4 (by omega)
    rw [e1] at s2' s3
    rw [e2] at s1
    have el2 := el.trans s1
    have em2 := em.trans t1
    -- what the two loops leave
    have oY : ∀ i, (i < 50 ∨ (70 ≤ i ∧ i < 177) ∨ 182 ≤ i) → sz x1 c x nT 0 Z4 i = Z4 i := fun i hi => sz_o hc nT 0 Z4 (by omega) hi
    have oW : ∀ i, (i < 30 ∨ (70 ≤ i ∧ i < 177) ∨ 182 ≤ i) → wz x1 c nT 0 (sz x1 c x nT 0 Z4) i = Z4 i := fun i hi => by
      rw [wz_o nT 0 _ (fun j _ hj => by omega), oY i (by omega)]
    have Y70 : sz x1 c x nT 0 Z4 70 = nI nT := (oY _ (by omega)).trans h70
    have YF : ∀ t, 0 ≤ t → t < nT → bd (sz x1 c x nT 0 Z4 (30 + t)) 4 := fun t _ ht => by rw [oY _ (by omega)]; exact (hF4 t ht).2
    have hLW : aL nL (G3 1) (wz x1 c nT 0 (sz x1 c x nT 0 Z4)) := aL_c hL4 hL (fun k hk => oW k (by omega))
    have hPW : aP c' (G3 2) (wz x1 c nT 0 (sz x1 c x nT 0 Z4)) := aP_c hP4 (by omega) (fun k hk => oW k (by omega))
    have gr1 : (cr_pa (cr_pa (cr_pa G3 3 h4) 0 a') 3 b') 1 = G3 1 := by rw [pm_pan _ _ (by omega), pm_pan _ _ (by omega), pm_pan _ _ (by omega)]
    have gr2 : (cr_pa (cr_pa (cr_pa G3 3 h4) 0 a') 3 b') 2 = G3 2 := by rw [pm_pan _ _ (by omega), pm_pan _ _ (by omega), pm_pan _ _ (by omega)]
    have gr0 : (cr_pa (cr_pa (cr_pa G3 3 h4) 0 a') 3 b') 0 = a' := by rw [pm_pan _ _ (by omega), pm_pa]
    have gr3 : (cr_pa (cr_pa (cr_pa G3 3 h4) 0 a') 3 b') 3 = b' := by rw [pm_pa]
    have hb6 : b' 6 = nI nT := (aC6 s3).trans ((oW _ (by omega)).trans h70)
    -- nothing is finished
    have plain : s_L_hour K G = s_L_hour_529 K (ss x1 c x nT 0 (nI 0) Z4) (cr_pa (cr_pa (cr_pa G3 3 h4) 0 a') 3 b') → s_X9_goHour (cr_pa M 1 Z) = s_X9_goHour_356 1200 x1 (nI c) (ss x1 c x nT 0 (nI 0) Z4) (nI 0) (cr_pa M 1 (sz x1 c x nT 0 Z4)) → ∃ (nL' nP' : Nat) (v : Int32) (G' : cr_G) (Z' : Nat → Int32), s_L_hour K G = some (v, G') ∧ s_X9_goHour (cr_pa M 1 Z) = some (v, cr_pa M 1 Z') ∧ aG nT nL' nP' G' Z' ∧ aK nB nW K Z' ∧ J nT nB nL' nP' nW (h + 1) (g + 1) Z' ∧ jE Z' := by
      intro f1 f2
      have f3 := m_worsen M hT10 x1 c hc (ss x1 c x nT 0 (nI 0) Z4) nT 0 1200 _ rfl (by omega) (by omega) Y70 YF
      obtain ⟨G', f4, f5⟩ := l_529 (K := K) (G := cr_pa (cr_pa (cr_pa G3 3 h4) 0 a') 3 b') (W := wz x1 c nT 0 (sz x1 c x nT 0 Z4)) (ss x1 c x nT 0 (nI 0) Z4) hT10 hL (show c' ≤ 10 by omega) (by rw [gr0]; exact s2') (by rw [gr1]; exact hLW) (by rw [gr2]; exact hPW) (by rw [gr3]; exact s3)
      refine fin nL c' _ G' _ hL (by omega) ?_ ?_ (f1.trans f4) (f2.trans f3) f5 (fun k hk => ?_) ?_
      · rw [pm_un _ _ (by omega), oW _ (by omega)]; exact hJ4.1.2.2.2.1
      · rw [pm_un _ _ (by omega), oW _ (by omega)]; exact hJ4.1.2.2.2.2.1
      · rw [pm_un _ _ (by omega), oW _ (by omega), o4 _ (by omega), o3 _ (by omega)]
      · exact jE_c hE4 (by rw [pm_un _ _ (by omega), oW _ (by omega)]) (by rw [pm_un _ _ (by omega), oW _ (by omega)])
    by_cases e4 : c = 4
    · subst e4
      obtain ⟨hc0, t, ht, rfl, p, hp, hpm, hpl⟩ := hfour rfl
      have mzW : ∀ i, i < 10 → mzb (wz (nI t) 4 nT 0 (sz (nI t) 4 x nT 0 Z4)) (nI t) i = mzb Z4 (nI t) i := fun i hi => by
        have q1 := oW (157 + i) (by omega)
        have q2 := oW (167 + i) (by omega)
        simp only [mzb, mtb, q1, q2]
      have mzY : ∀ i, i < 10 → mzb (sz (nI t) 4 x nT 0 Z4) (nI t) i = mzb Z4 (nI t) i := fun i hi => by
        have q1 := oY (157 + i) (by omega)
        have q2 := oY (167 + i) (by omega)
        simp only [mzb, mtb, q1, q2]
      have w30 := wz_t (t := t) (by omega) nT 0 (sz (nI t) 4 x nT 0 Z4) (by omega)
      have cmp : (wz (nI t) 4 nT 0 (sz (nI t) 4 x nT 0 Z4) 143 < wz (nI t) 4 nT 0 (sz (nI t) 4 x nT 0 Z4) 73 * wz (nI t) 4 nT 0 (sz (nI t) 4 x nT 0 Z4) (30 + t)) = (sz (nI t) 4 x nT 0 Z4 143 < sz (nI t) 4 x nT 0 Z4 73 * sz (nI t) 4 x nT 0 Z4 (30 + t)) := by
        rw [w30, oW _ (by omega), oW _ (by omega), oY 143 (by omega), oY 73 (by omega)]
      obtain ⟨mf1, mf2⟩ := m_finish (t := t) (p := p) M (ss (nI t) 4 x nT 0 (nI 0) Z4) (nI x) mm (nP := c') hT10 hL (by omega) hc0 ht Y70 ((oY _ (by omega)).trans hJ4.1.2.2.2.1) ((oY _ (by omega)).trans hJ4.1.2.2.2.2.1) hp (by rw [mzY p (by omega)]; exact hpm) (fun i hi => by rw [mzY i (by omega)]; exact hpl i hi)
      have lf := l_finish (t := t) (p := p) K (cr_pa G3 3 h4) (ss (nI t) 4 x nT 0 (nI 0) Z4) (nI x) ml hT6 hL (show c' ≤ 8 by omega) hc0 ht s2' s3 (by rw [pm_pan _ _ (by omega)]; exact hLW) (by rw [pm_pan _ _ (by omega)]; exact hPW) ((oW _ (by omega)).trans h70) ((oW _ (by omega)).trans hJ4.1.2.2.2.1) ((oW _ (by omega)).trans hJ4.1.2.2.2.2.1) (by rw [oW _ (by omega)]; exact k12) hp (by rw [mzW p (by omega)]; exact hpm) (fun i hi => by rw [mzW i (by omega)]; exact hpl i hi)
      rw [cmp] at lf
      rcases lf with ⟨q1, q2⟩ | ⟨q1, a5, l5, p5, b5, q2, q3, q4, q5, q6⟩
      · exact plain (el2.trans q2) (em2.trans (mf1 q1))
      · have F70 : fin9 t p nL c' (sz (nI t) 4 x nT 0 Z4) 70 = nI nT := (fin9_o hL (by omega) (by omega) (by omega) (by omega)).trans Y70
        have f3 := m_worsen M hT10 (nI t) 4 (by omega) (ss (nI t) 4 x nT 0 (nI 0) Z4) nT 0 1200 (fin9 t p nL c' (sz (nI t) 4 x nT 0 Z4)) rfl (by omega) (by omega) F70 (fun t' _ ht' => by
          by_cases et : t' = t
          · subst et
            refine ⟨0, by omega, ?_⟩
            unfold fin9
            rw [tk_o (by omega) (by omega), fg_o (by omega), us_o hL (by omega), pm_un _ _ (by omega), pm_u]
          · rw [fin9_o hL (by omega) (by omega) (by omega) (by omega)]
            exact YF t' (by omega) ht')
        rw [← fin9_wz hT10 hL (by omega) (by omega) rfl] at f3
        have em3 := (em2.trans (mf2 q1)).trans f3
        obtain ⟨G', f4, f5⟩ := l_529 (K := K) (G := cr_pa (cr_pa (cr_pa (cr_pa (cr_pa G3 3 h4) 0 a5) 1 l5) 2 p5) 3 b5) (ss (nI t) 4 x nT 0 (nI 0) Z4) hT10 (show nL - 1 ≤ 10 by omega) (show c' - 1 ≤ 10 by omega) (by rw [pm_pan _ _ (by omega), pm_pan _ _ (by omega), pm_pan _ _ (by omega), pm_pa]; exact q3) (by rw [pm_pan _ _ (by omega), pm_pan _ _ (by omega), pm_pa]; exact q4) (by rw [pm_pan _ _ (by omega), pm_pa]; exact q5) (by rw [pm_pa]; exact q6)
        refine fin (nL - 1) (c' - 1) _ G' _ (by omega) (by omega) ?_ ?_ ((el2.trans q2).trans f4) em3 f5 (fun k hk => ?_) ?_
        · rw [pm_un _ _ (by omega)]
          unfold fin9
          rw [tk_o (by omega) (by omega), fg_o (by omega), us_156]
        · rw [pm_un _ _ (by omega)]
          unfold fin9
          rw [tk_145]
        · rw [pm_un _ _ (by omega), fin9_o hL (by omega) (by omega) (by omega) (by omega), oW _ (by omega), o4 _ (by omega), o3 _ (by omega)]
        · refine ⟨Or.inl ?_, ?_⟩
          · rw [pm_un _ _ (by omega)]
            unfold fin9
            rw [tk_o (by omega) (by omega), fg_144]
          · rw [pm_un _ _ (by omega), fin9_o hL (by omega) (by omega) (by omega) (by omega), oW _ (by omega)]
            exact hE4.2
    · refine plain ?_ ?_
      · rw [el2]
        simp (disch := omega) only [s_L_hour_205, pm_lit, pm_S, pm_C, hb6, Nat.le_refl, e4, ↓reduceIte]
      · rw [em2]
        simp (disch := omega) only [s_X9_goHour_158, pm_lit, pm_S, pm_C, Y70, Nat.le_refl, e4, ↓reduceIte]
  by_cases h0 : c' = 0
  · subst h0
    refine rest mI 0 h3 Z3 (by omega) d4 d5 d6 (fun _ _ => rfl) ?_ ?_ (fun h => by omega)
    · rw [lh3, ← g33, pm_self]
      have nmm : ¬ nI 0 ≤ mI := by decide
      simp (disch := omega) only [s_L_hour_148, s_L_hour_171, ↓pm_m1, pm_lit, aC5 hC3, h182, hwl, pm_cl, h20, pm_C, Nat.le_refl, nmm, ↓reduceIte]
    · rw [mh]
      simp (disch := omega) only [s_X9_goHour_99, s_X9_goHour_122, ↓pm_m1, pm_lit, pm_pa, h145, h182, hwm, pm_cl, ↓reduceIte]
  · obtain ⟨t, ht, hz⟩ := d5.2.2.2.2.2.1.1 0 (by omega)
    have hz : Z3 146 = nI t := hz
    have h21 : G3 2 1 = nI t := (hP3 1 (by omega)).trans hz
    obtain ⟨c, h4, Z4, v1, v2, v3, v4, v5, v6, v7, v8⟩ := l_serve (M := M) hT6 hA3 hL3 hC3 hK3 d5 d6 ht hx (show h < 2 ^ 31 by omega) hwx
    have hc0 : ¬ c' ≤ 0 := by omega
    have nt : 0 ≤ t := by omega
    refine rest (nI t) c h4 Z4 v1 v4 v5 v6 v7 ?_ ?_ (fun h => ?_)
    · rw [lh3]
      simp (disch := omega) only [s_L_hour_148, s_L_hour_171, ↓pm_m1, pm_lit, aC5 hC3, h182, hwl, pm_cl, h20, pm_C, hc0, h21, nt, v2, ↓reduceIte]
    · rw [mh]
      simp (disch := omega) only [s_X9_goHour_99, s_X9_goHour_122, ↓pm_m1, pm_lit, pm_pa, h145, h182, hwm, pm_cl, pm_C, h0, hz, v3, ↓reduceIte]
    · refine ⟨by omega, t, ht, rfl, ?_⟩
      obtain ⟨p, w1, w2, w3⟩ := v8 h
      have mz4 : ∀ i, i < 10 → mzb Z4 (nI t) i = mzb Z3 (nI t) i := fun i hi => by
        have q1 := v7 (157 + i) (by omega)
        have q2 := v7 (167 + i) (by omega)
        simp only [mzb, mtb, q1, q2]
      exact ⟨p, w1, by rw [mz4 p (by omega)]; exact w2, fun i hi => by rw [mz4 i (by omega)]; exact w3 i hi⟩
