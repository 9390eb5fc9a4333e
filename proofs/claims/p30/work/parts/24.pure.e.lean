/-! ### an hour: the harbour, the plan -/
theorem upd_same {f : Nat → Int32} {k : Nat} {v : Int32} (h : f k = v) : upd f k v = f := by
  funext i
  simp only [upd]
  by_cases e : i = k
  · rw [if_pos e, e, h]
  · rw [if_neg e]
theorem q_unload_loop {nT nB nL nP nW : Nat} (M : cr_G) (hn : okn nT nB nL nP nW) : ∀ (d k n n' : Nat) (r : Int32) (G : cr_G) (Z : Nat → Int32), nL - k = d → d < n → d < n' → k ≤ nL → fr nT nB nL nP nW G Z → Z 156 = nI nL → ∃ (G' : cr_G) (Z' : Nat → Int32), s_X3_unload_4 n r (nI k) G = some G' ∧ s_X9_unload_10 n' r (nI k) (cr_pa M 1 Z) = some (cr_pa M 1 Z') ∧ fr nT nB nL nP nW G' Z' ∧ ∀ i, (i < 167 ∨ 177 ≤ i) → Z' i = Z i := by
  have hL : nL ≤ 10 := hn.2.2.1
  intro d
  induction d with
  | zero =>
    intro k n n' r G Z hd hn1 hn2 hk hf h6
    obtain ⟨n, rfl⟩ : ∃ m, n = m + 1 := ⟨n - 1, by omega⟩
    obtain ⟨n', rfl⟩ : ∃ m, n' = m + 1 := ⟨n' - 1, by omega⟩
    have h5 : G 5 2 = nI nL := (fr_l hf).trans h6
    have hck : nL ≤ k := by omega
    refine ⟨G, Z, ?_, ?_, hf, fun _ _ => rfl⟩
    · simp (disch := omega) only [s_X3_unload_4, pm_S, h5, pm_C, hck, ↓reduceIte]
    · simp (disch := omega) only [s_X9_unload_10, pm_S, h6, pm_C, hck, ↓reduceIte]
  | succ d ih =>
    intro k n n' r G Z hd hn1 hn2 hk hf h6
    obtain ⟨n, rfl⟩ : ∃ m, n = m + 1 := ⟨n - 1, by omega⟩
    obtain ⟨n', rfl⟩ : ∃ m, n' = m + 1 := ⟨n' - 1, by omega⟩
    have h5 : G 5 2 = nI nL := (fr_l hf).trans h6
    have hck : ¬ nL ≤ k := by omega
    have hkl : k < nL := by omega
    have hw : G 7 k = Z (167 + k) := fr_lg hf hkl
    have hl : lvp nT nB nL nP nW 7 k := by simp [lvp, hkl]
    have go : ∀ u : Int32, cr_min r (Z (167 + k)) = u → s_X9_unload_10 (n' + 1) r (nI k) (cr_pa M 1 Z) = s_X9_unload_50 (fun x1a x2a Ga => s_X9_unload_10 n' x1a x2a Ga) r (nI k) u (cr_pa M 1 Z) → ∃ (G' : cr_G) (Z' : Nat → Int32), s_X3_unload_4 (n + 1) r (nI k) G = some G' ∧ s_X9_unload_10 (n' + 1) r (nI k) (cr_pa M 1 Z) = some (cr_pa M 1 Z') ∧ fr nT nB nL nP nW G' Z' ∧ ∀ i, (i < 167 ∨ 177 ≤ i) → Z' i = Z i := by
      intro u hu hm
      obtain ⟨G', Z', a1, a2, a3, a4⟩ := ih (k + 1) n n' (r - u) (cr_pt G 7 k (Z (167 + k) - u)) (upd Z (167 + k) (Z (167 + k) - u)) (by omega) (by omega) (by omega) (by omega) (fr_pt _ hn hf hl) (by rw [pm_un _ _ (by omega)]; exact h6)
      refine ⟨G', Z', ?_, ?_, a3, fun i hi => ?_⟩
      · simp (disch := omega) only [s_X3_unload_4, ↓pm_bd, pm_gd, pm_lit, pm_S, pm_C, h5, hck, hw, hu, ↓reduceIte]
        exact a1
      · rw [hm]
        simp (disch := omega) only [s_X9_unload_50, ↓pm_bd, pm_gd, pm_lit, pm_S]
        exact a2
      · rw [a4 i hi, pm_un _ _ (by omega)]
    by_cases e : r ≤ Z (167 + k)
    · refine go r ?_ ?_
      · unfold cr_min
        rw [if_neg (Int32.not_lt.mpr e)]
      · simp (disch := omega) only [s_X9_unload_10, ↓pm_bd, pm_gd, pm_lit, pm_S, pm_C, h6, hck, e, ↓reduceIte]
    · refine go (Z (167 + k)) ?_ ?_
      · unfold cr_min
        rw [if_pos (Int32.not_le.mp e)]
      · simp (disch := omega) only [s_X9_unload_10, ↓pm_bd, pm_gd, pm_lit, pm_S, pm_C, h6, hck, e, ↓reduceIte]
theorem q_unload {nT nB nL nP nW : Nat} {G M : cr_G} {Z : Nat → Int32} (hn : okn nT nB nL nP nW) (hf : fr nT nB nL nP nW G Z) (h6 : Z 156 = nI nL) : ∃ (G' : cr_G) (Z' : Nat → Int32), s_X3_unload (G 13 5) G = some G' ∧ s_X9_unload (cr_pa M 1 Z) = some (cr_pa M 1 Z') ∧ fr nT nB nL nP nW G' Z' ∧ ∀ i, (i < 167 ∨ 177 ≤ i) → Z' i = Z i := by
  have hL : nL ≤ 10 := hn.2.2.1
  obtain ⟨G', Z', a1, a2, a3, a4⟩ := q_unload_loop M hn nL 0 1200 1200 (Z 76) G Z rfl (by omega) (by omega) (by omega) hf h6
  refine ⟨G', Z', ?_, ?_, a3, a4⟩
  · simp only [s_X3_unload, pm_lit, fr_s hf (show 5 < 7 by omega)]
    exact a1
  · simp only [s_X9_unload, ↓pm_bd, pm_lit, pm_pa]
    exact a2
/-- one taken off the plan -/
def tk (Z : Nat → Int32) (p c : Nat) : Nat → Int32 := sl (upd Z 145 (nI (c - 1))) 146 p (c - 1)
theorem tk_o {Z : Nat → Int32} {p c k : Nat} (hc : c ≤ 10) (h : k < 145 ∨ 156 ≤ k) : tk Z p c k = Z k := by
  simp only [tk, sl, upd]
  rw [if_neg (by omega), if_neg (by omega)]
theorem tk_145 {Z : Nat → Int32} {p c : Nat} : tk Z p c 145 = nI (c - 1) := by
  simp only [tk, sl, upd]
  rw [if_neg (by omega)]
  simp
theorem tk_r {Z : Nat → Int32} {p c k : Nat} : tk Z p c (146 + k) = if p ≤ k ∧ k < c - 1 then Z (146 + (k + 1)) else Z (146 + k) := by
  simp only [tk, sl, upd]
  by_cases e : p ≤ k ∧ k < c - 1
  · rw [if_pos e, if_pos (by omega), if_neg (by omega)]
    rfl
  · rw [if_neg e, if_neg (by omega), if_neg (by omega)]
theorem fr_tk {nT nB nL nW c p : Nat} {G : cr_G} {Z : Nat → Int32} (hn : okn nT nB nL c nW) (hf : fr nT nB nL c nW G Z) (hp : p < c) : fr nT nB nL (c - 1) nW (cr_pa (cr_pt G 8 1 (nI (c - 1))) 9 (sl (G 9) 0 p (c - 1))) (tk Z p c) := by
  have h1 : fr nT nB nL c nW (cr_pt G 8 1 (nI (c - 1))) (upd Z 145 (nI (c - 1))) := fr_pt (nI (c - 1)) hn hf (by simp [lvp])
  have hc := hn.2.2.2.1
  refine fr_pa (mT := nT) (mB := nB) (mL := nL) (mP := c - 1) (mW := nW) (by unfold okn at hn ⊢; omega) h1 (fun j i hj hl => ?_) (fun k hk => ?_) (fun i hl => ?_)
  · exact lvp_mono (Nat.le_refl _) (Nat.le_refl _) (Nat.le_refl _) (Nat.sub_le _ _) (Nat.le_refl _) hl
  · have h9 := @rw_9 k
    simp only [tk, sl]
    rw [if_neg (fun hh => hk (h9 (by omega)))]
  · have hi : i < c - 1 := by simpa [lvp] using hl
    show sl (G 9) 0 p (c - 1) i = tk Z p c (146 + i)
    rw [tk_r]
    simp only [sl]
    by_cases e : p ≤ i ∧ i < c - 1
    · rw [if_pos (by omega), if_pos e, fr_pr hf (by omega)]
    · rw [if_neg (by omega), if_neg e, fr_pr hf (by omega)]
theorem J_tk {nT nB nL nW c p h g : Nat} {Z : Nat → Int32} (hJ : J nT nB nL c nW h g Z) (hp : p < c) : J nT nB nL (c - 1) nW h g (tk Z p c) := by
  obtain ⟨a1, a2, a3, a4, a5, a6, a7, a8, a9, a10⟩ := hJ
  have hn := a1.1
  have hc := hn.2.2.2.1
  obtain ⟨b0, b1, b2, b3, b4, b5, b6⟩ := a1
  refine ⟨⟨by unfold okn at hn ⊢; omega, ?_, ?_, ?_, tk_145, ?_, ?_⟩, jS_c a2 (tk_o hc (by omega)) (tk_o hc (by omega)), jT_c a3 hn.1 (fun k hk => tk_o hc (by omega)), jG_c a4 hn.1 (fun k hk => tk_o hc (by omega)), jQ_c a5 hn.1 (fun k hk => tk_o hc (by omega)), ⟨fun k hk => ?_, fun k k' hk hk' he => ?_⟩, jK_c a7 (fun k hk => tk_o hc (by omega)), jB_c a8 hn.2.1 (fun k hk => tk_o hc (by omega)), jW_c a9 hn.2.2.2.2 (fun k hk => tk_o hc (by omega)), jD_c a10 (fun k hk => tk_o hc (by omega))⟩
  · rw [tk_o hc (by omega)]; exact b1
  · rw [tk_o hc (by omega)]; exact b2
  · rw [tk_o hc (by omega)]; exact b3
  · rw [tk_o hc (by omega)]; exact b5
  · rw [tk_o hc (by omega)]; exact b6
  · rw [tk_r]
    split
    · exact a6.1 (k + 1) (by omega)
    · exact a6.1 k (by omega)
  · rw [tk_r, tk_r] at he
    split at he <;> split at he
    · have := a6.2 (k + 1) (k' + 1) (by omega) (by omega) he
      omega
    · have := a6.2 (k + 1) k' (by omega) (by omega) he
      omega
    · have := a6.2 k (k' + 1) (by omega) (by omega) he
      omega
    · exact a6.2 k k' (by omega) (by omega) he
/-- the work forgotten -/
def fg (Z : Nat → Int32) : Nat → Int32 := upd (upd Z 143 (nI 0)) 144 mI
theorem fg_o {Z : Nat → Int32} {k : Nat} (h : k ≠ 143 ∧ k ≠ 144) : fg Z k = Z k := by
  simp only [fg]
  rw [pm_un _ _ h.2, pm_un _ _ h.1]
theorem fg_144 {Z : Nat → Int32} : fg Z 144 = mI := pm_u _ _ _
theorem fg_143 {Z : Nat → Int32} : fg Z 143 = nI 0 := by
  simp only [fg]
  rw [pm_un _ _ (by omega), pm_u]
theorem fg_id {Z : Nat → Int32} (h : Z 144 = mI) (h' : Z 143 = nI 0) : fg Z = Z := by
  unfold fg
  rw [upd_same h', upd_same h]
theorem qm_forget (M : cr_G) (Z : Nat → Int32) : s_X9_forget (cr_pa M 1 Z) = some (cr_pa M 1 (fg Z)) := by
  simp only [s_X9_forget, ↓pm_bd, ↓pm_m1, pm_lit, pm_ptpa, fg]
theorem qc_forget (G : cr_G) : s_X1_forgetWork G = some (cr_pt (cr_pt G 10 4 mI) 10 3 (nI 0)) := by
  simp only [s_X1_forgetWork, ↓pm_bd, ↓pm_m1, pm_lit]
theorem fr_fg {nT nB nL nP nW : Nat} {G : cr_G} {Z : Nat → Int32} (hn : okn nT nB nL nP nW) (hf : fr nT nB nL nP nW G Z) : fr nT nB nL nP nW (cr_pt (cr_pt G 10 4 mI) 10 3 (nI 0)) (fg Z) := by
  have h1 : fr nT nB nL nP nW (cr_pt G 10 4 mI) (upd Z 144 mI) := fr_pt mI hn hf (by simp [lvp])
  have h2 : fr nT nB nL nP nW (cr_pt (cr_pt G 10 4 mI) 10 3 (nI 0)) (upd (upd Z 144 mI) 143 (nI 0)) := fr_pt (nI 0) hn h1 (by simp [lvp])
  have h3 : upd (upd Z 144 mI) 143 (nI 0) = fg Z := by
    funext i
    simp only [fg, upd]
    by_cases e : i = 143
    · subst e; rfl
    · by_cases e' : i = 144 <;> simp [e, e']
  rw [h3] at h2
  exact h2
theorem J_fg {nT nB nL nP nW h g : Nat} {Z : Nat → Int32} (hJ : J nT nB nL nP nW h g Z) : J nT nB nL nP nW h g (fg Z) := by
  obtain ⟨a1, a2, a3, a4, a5, a6, a7, a8, a9, a10⟩ := hJ
  have hn := a1.1
  refine ⟨jC_c a1 (fg_o (by omega)) (fg_o (by omega)) (fg_o (by omega)) (fg_o (by omega)) (fg_o (by omega)) (fg_o (by omega)), jS_c a2 (fg_o (by omega)) (fg_o (by omega)), jT_c a3 hn.1 (fun k hk => fg_o (by omega)), jG_c a4 hn.1 (fun k hk => fg_o (by omega)), jQ_c a5 hn.1 (fun k hk => fg_o (by omega)), jP_c a6 hn.2.2.2.1 (fun k hk => fg_o (by omega)), ⟨?_, ?_, fun _ => fg_143⟩, jB_c a8 hn.2.1 (fun k hk => fg_o (by omega)), jW_c a9 hn.2.2.2.2 (fun k hk => fg_o (by omega)), jD_c a10 (fun k hk => fg_o (by omega))⟩
  · rw [fg_o (by omega)]; exact a7.1
  · rw [fg_o (by omega), fg_o (by omega)]; exact a7.2.1
/-! ### those without a fault leave the plan -/
theorem qc_has {nT t : Nat} {G : cr_G} (h0 : G 0 1 = nI nT) (hn : nT ≤ 10) (ht : t < nT) : s_X2_hasTurbine G (nI t) = some true := by
  have h1 : ¬ t < 0 := by omega
  have h2 : ¬ nT ≤ t := by omega
  simp (disch := omega) only [s_X2_hasTurbine, pm_lit, pm_C, h0, h1, h2, ↓reduceIte]
theorem qc_has_m (G : cr_G) : s_X2_hasTurbine G mI = some false := by
  have h1 : mI < 0 := by decide
  simp only [s_X2_hasTurbine, h1, ↓reduceIte]
theorem fg_tk {Z : Nat → Int32} {c : Nat} (hc : c ≤ 10) : tk (fg Z) 0 c = fg (tk Z 0 c) := by
  funext i
  by_cases e1 : i = 143
  · subst e1
    rw [tk_o hc (by omega), fg_143, fg_143]
  · by_cases e2 : i = 144
    · subst e2
      rw [tk_o hc (by omega), fg_144, fg_144]
    · rw [fg_o ⟨e1, e2⟩]
      simp only [tk, sl, upd]
      repeat' split
      all_goals first | rfl | omega | (rw [fg_o (by omega)])
theorem q_drop_loop {nT nB nL nW h g : Nat} (M : cr_G) : ∀ (c i n n' : Nat) (G : cr_G) (Z : Nat → Int32), i + c ≤ 10 → 10 - i < n → c < n' → fr nT nB nL c nW G Z → J nT nB nL c nW h g Z → (Z 144 = mI ∨ (0 < c ∧ Z 144 = Z 146)) → ∃ (c' n2 : Nat) (G' : cr_G) (Z' : Nat → Int32), c' ≤ c ∧ s_X2_dropFaultless_36 n (nI i) G = some G' ∧ s_X9_goHour_38 n' (cr_pa M 1 Z) = s_X9_goHour_99 (cr_pa M 1 Z') ∧ fr nT nB nL c' nW G' Z' ∧ J nT nB nL c' nW h g Z' ∧ (∀ k, (k < 143 ∨ 156 ≤ k) → Z' k = Z k) := by
  intro c
  induction c with
  | zero =>
    intro i n n' G Z hi hn1 hn2 hf hJ hW
    obtain ⟨n, rfl⟩ : ∃ m, n = m + 1 := ⟨n - 1, by omega⟩
    obtain ⟨n', rfl⟩ : ∃ m, n' = m + 1 := ⟨n' - 1, by omega⟩
    have h8 : G 8 1 = nI 0 := (fr_p hf).trans hJ.1.2.2.2.2.1
    have h145 : Z 145 = nI 0 := hJ.1.2.2.2.2.1
    refine ⟨0, 0, G, Z, by omega, ?_, ?_, hf, hJ, fun _ _ => rfl⟩
    · by_cases e : 10 ≤ i
      · simp (disch := omega) only [s_X2_dropFaultless_36, pm_lit, pm_C, e, ↓reduceIte]
      · simp (disch := omega) only [s_X2_dropFaultless_36, pm_lit, pm_C, e, qc_first (show 0 ≤ 10 by omega) h8, pm_cl, qc_has_m, ↓reduceIte, Bool.false_eq_true]
    · simp (disch := omega) only [s_X9_goHour_38, pm_lit, pm_pa, h145, pm_C, Nat.le_refl, ↓reduceIte]
  | succ c ih =>
    intro i n n' G Z hi hn1 hn2 hf hJ hW
    obtain ⟨n, rfl⟩ : ∃ m, n = m + 1 := ⟨n - 1, by omega⟩
    obtain ⟨n', rfl⟩ : ∃ m, n' = m + 1 := ⟨n' - 1, by omega⟩
    have hn := hJ.1.1
    have hT : nT ≤ 10 := hn.1
    have h145 : Z 145 = nI (c + 1) := hJ.1.2.2.2.2.1
    have h8 : G 8 1 = nI (c + 1) := (fr_p hf).trans h145
    have h01 : G 0 1 = nI nT := (fr_n hf).trans hJ.1.2.1
    obtain ⟨t, ht, hz⟩ := hJ.2.2.2.2.2.1.1 0 (by omega)
    have hz : Z 146 = nI t := hz
    have h9 : G 9 0 = nI t := (fr_pr hf (by omega)).trans hz
    have h10 : ¬ 10 ≤ i := by omega
    have hc0 : ¬ c + 1 = 0 := by omega
    have hc1 : ¬ c + 1 ≤ 0 := by omega
    obtain ⟨f, hf4, hff⟩ := (hJ.2.2.1 t ht).2.2
    have hG3 : G (t + 15) 3 = nI f := (fr_t3 hf ht).trans hff
    by_cases e : f = 0
    · subst e
      have hfr1 := fr_fg (by unfold okn at hn ⊢; omega) (fr_tk hn hf (show 0 < c + 1 by omega))
      have hJ1 := J_fg (J_tk hJ (show 0 < c + 1 by omega))
      obtain ⟨c', n2, G', Z', b1, b2, b3, b4, b5, b6⟩ := ih (i + 1) n n' _ _ (by omega) (by omega) (by omega) hfr1 hJ1 (Or.inl fg_144)
      refine ⟨c', n2, G', Z', by omega, ?_, ?_, b4, b5, fun k hk => ?_⟩
      · simp (disch := omega) only [s_X2_dropFaultless_36, ↓pm_bd, pm_lit, pm_C, h10, qc_first (show c + 1 ≤ 10 by omega) h8, hc0, h9, pm_cl, qc_has h01 hT ht, pm_S, pm_gd, hG3, qc_removeAt (show c + 1 ≤ 10 by omega) h8 (show 0 < c + 1 by omega), qc_forget, ↓reduceIte]
        exact b2
      · have hwf : s_X9_goHour_38 (n' + 1) (cr_pa M 1 Z) = s_X9_goHour_38 n' (cr_pa M 1 (fg (tk Z 0 (c + 1)))) := by
          rcases hW with hW | ⟨-, hW⟩
          · have hne : ¬ nI t = mI := by rw [pm_ne (by omega)]; exact fun h => h
            have e2 : fg (tk Z 0 (c + 1)) = tk Z 0 (c + 1) := fg_id (by rw [tk_o (by omega) (by omega)]; exact hW) (by rw [tk_o (by omega) (by omega)]; exact hJ.2.2.2.2.2.2.1.2.2 hW)
            rw [e2]
            simp (disch := omega) only [s_X9_goHour_38, s_X9_goHour_91, ↓pm_bd, pm_lit, pm_pa, h145, pm_C, hc1, hz, pm_S, pm_gd, hff, hW, qm_takeOff (show c + 1 ≤ 10 by omega) (show 0 < c + 1 by omega) (show 0 ≤ 10 by omega) h145, pm_cl, ↓reduceIte]
            rfl
          · have h145' : fg Z 145 = nI (c + 1) := by rw [fg_o (by omega)]; exact h145
            simp (disch := omega) only [s_X9_goHour_38, s_X9_goHour_91, ↓pm_bd, pm_lit, pm_pa, h145, pm_C, hc1, hz, pm_S, pm_gd, hff, hW, qm_forget, qm_takeOff (show c + 1 ≤ 10 by omega) (show 0 < c + 1 by omega) (show 0 ≤ 10 by omega) h145', pm_cl, ↓reduceIte]
            rw [← fg_tk (by omega)]
            rfl
        rw [hwf]
        exact b3
      · rw [b6 k hk, fg_o (by omega), tk_o (by omega) (by omega)]
    · refine ⟨c + 1, 0, G, Z, by omega, ?_, ?_, hf, hJ, fun _ _ => rfl⟩
      · simp (disch := omega) only [s_X2_dropFaultless_36, ↓pm_bd, pm_lit, pm_C, h10, qc_first (show c + 1 ≤ 10 by omega) h8, hc0, h9, pm_cl, qc_has h01 hT ht, pm_S, pm_gd, hG3, e, ↓reduceIte]
      · simp (disch := omega) only [s_X9_goHour_38, ↓pm_bd, pm_lit, pm_pa, h145, pm_C, hc1, hz, pm_S, pm_gd, hff, e, ↓reduceIte]
/-- the first two steps of an hour -/
theorem q_drop {nT nB nL nW c h g : Nat} {G M : cr_G} {Z : Nat → Int32} (hf : fr nT nB nL c nW G Z) (hJ : J nT nB nL c nW h g Z) : ∃ (c' : Nat) (G' : cr_G) (Z' : Nat → Int32), c' ≤ c ∧ s_X2_dropFaultless G = some G' ∧ (if Z 145 ≤ 0 then s_X9_goHour_38 1200 (cr_pa M 1 Z) else if Z 146 = Z 144 then s_X9_goHour_38 1200 (cr_pa M 1 Z) else s_X9_goHour_38 1200 (cr_pa M 1 (fg Z))) = s_X9_goHour_99 (cr_pa M 1 Z') ∧ fr nT nB nL c' nW G' Z' ∧ J nT nB nL c' nW h g Z' ∧ (∀ k, (k < 143 ∨ 156 ≤ k) → Z' k = Z k) := by
  have hn := hJ.1.1
  have hc := hn.2.2.2.1
  have h145 : Z 145 = nI c := hJ.1.2.2.2.2.1
  have h8 : G 8 1 = nI c := (fr_p hf).trans h145
  by_cases h0 : c = 0
  · subst h0
    by_cases hw : Z 144 = mI
    · obtain ⟨c', n2, G', Z', b1, b2, b3, b4, b5, b6⟩ := q_drop_loop M 0 0 1200 1200 G Z (by omega) (by omega) (by omega) hf hJ (Or.inl hw)
      refine ⟨c', G', Z', b1, ?_, ?_, b4, b5, b6⟩
      · simp (disch := omega) only [s_X2_dropFaultless, pm_lit, pm_C, h8, Nat.le_refl, ↓reduceIte]
        exact b2
      · simp (disch := omega) only [h145, pm_lit, pm_C, Nat.le_refl, ↓reduceIte]
        exact b3
    · refine ⟨0, G, Z, by omega, ?_, ?_, hf, hJ, fun _ _ => rfl⟩
      · have h10 : ¬ 10 ≤ 0 := by omega
        have key : ∀ n, s_X2_dropFaultless_36 (n + 1) (nI 0) G = some G := fun n => by
          simp (disch := omega) only [s_X2_dropFaultless_36, pm_lit, pm_C, h10, qc_first (show 0 ≤ 10 by omega) h8, pm_cl, qc_has_m, ↓reduceIte, Bool.false_eq_true]
        simp (disch := omega) only [s_X2_dropFaultless, pm_lit, pm_C, h8, Nat.le_refl, ↓reduceIte]
        exact key 1199
      · have key : ∀ n, s_X9_goHour_38 (n + 1) (cr_pa M 1 Z) = s_X9_goHour_99 (cr_pa M 1 Z) := fun n => by
          simp (disch := omega) only [s_X9_goHour_38, pm_lit, pm_pa, h145, pm_C, Nat.le_refl, ↓reduceIte]
        simp (disch := omega) only [h145, pm_lit, pm_C, Nat.le_refl, ↓reduceIte]
        exact key 1199
  · have hc1 : ¬ c ≤ 0 := by omega
    have h9 : G 9 0 = Z 146 := fr_pr hf (by omega)
    have h104 : G 10 4 = Z 144 := fr_c4 hf
    by_cases hw : Z 146 = Z 144
    · obtain ⟨c', n2, G', Z', b1, b2, b3, b4, b5, b6⟩ := q_drop_loop M c 0 1200 1200 G Z (by omega) (by omega) (by omega) hf hJ (Or.inr ⟨by omega, hw.symm⟩)
      refine ⟨c', G', Z', b1, ?_, ?_, b4, b5, b6⟩
      · simp (disch := omega) only [s_X2_dropFaultless, pm_lit, pm_C, h8, hc1, qc_first hc h8, h0, h9, h104, hw, pm_cl, ↓reduceIte]
        exact b2
      · simp (disch := omega) only [h145, pm_lit, pm_C, hc1, hw, ↓reduceIte]
        exact b3
    · obtain ⟨c', n2, G', Z', b1, b2, b3, b4, b5, b6⟩ := q_drop_loop M c 0 1200 1200 _ _ (by omega) (by omega) (by omega) (fr_fg hn hf) (J_fg hJ) (Or.inl fg_144)
      refine ⟨c', G', Z', b1, ?_, ?_, b4, b5, fun k hk => ?_⟩
      · simp (disch := omega) only [s_X2_dropFaultless, pm_lit, pm_C, h8, hc1, qc_first hc h8, h0, h9, h104, hw, pm_cl, qc_forget, ↓reduceIte]
        exact b2
      · simp (disch := omega) only [h145, pm_lit, pm_C, hc1, hw, ↓reduceIte]
        exact b3
      · rw [b6 k hk, fg_o (by omega)]
