/-! ### an hour: sharing the power -/
theorem sI_upd (Z : Nat → Int32) (a : Nat) (y : Int32) : ∀ (n i0 : Nat), i0 < n → sI (fun k => upd Z (a + i0) (Z (a + i0) + y) (a + k)) n = sI (fun k => Z (a + k)) n + y
  | 0, _, h => absurd h (Nat.not_lt_zero _)
  | n + 1, i0, h => by
    simp only [sI]
    by_cases e : i0 = n
    · subst e
      rw [pm_u, sI_congr (c := i0) (g := fun k => Z (a + k)) (fun k hk => pm_un _ _ (by omega)), Int32.add_assoc]
    · rw [sI_upd Z a y n i0 (by omega), pm_un _ _ (by omega), Int32.add_assoc, Int32.add_assoc, Int32.add_comm y]
def GW (g : Nat) (Z : Nat → Int32) (t : Nat) : Prop := ∃ a b : Nat, Z (50 + t) = nI a ∧ Z (60 + t) = nI b ∧ a + b ≤ 50 * g
theorem q_share_loop {nT nB nL nP nW : Nat} (M : cr_G) (hn : okn nT nB nL nP nW) (x1 : Int32) (c x g : Nat) (hc : c ≤ 4) (hx : x ≤ 99) : ∀ (d k n n' : Nat) (s : Int32) (G : cr_G) (Z : Nat → Int32), nT - k = d → d < n → d < n' → k ≤ nT → fr nT nB nL nP nW G Z → Z 70 = nI nT → jT nT Z → jQ nT Z → (∀ t, t < k → GW (g + 1) Z t) → (∀ t, k ≤ t → t < nT → GW g Z t) → ∃ (n2 : Nat) (s' : Int32) (G' : cr_G) (Z' : Nat → Int32), 0 < n2 ∧ s_X2_sharePower_11 n x1 (nI c) (nI x) s (nI k) G = some (s', G') ∧ s_X9_goHour_158 n' x1 (nI x) (nI c) s (nI k) (cr_pa M 1 Z) = s_X9_goHour_158 n2 x1 (nI x) (nI c) s' (nI nT) (cr_pa M 1 Z') ∧ fr nT nB nL nP nW G' Z' ∧ jQ nT Z' ∧ (∀ t, t < nT → GW (g + 1) Z' t) ∧ (∀ i, (i < 50 ∨ (70 ≤ i ∧ i < 177) ∨ 182 ≤ i) → Z' i = Z i) ∧ (∀ t, nT ≤ t → t < 10 → Z' (50 + t) = Z (50 + t) ∧ Z' (60 + t) = Z (60 + t)) := by
  have hT : nT ≤ 10 := hn.1
  intro d
  induction d with
  | zero =>
    intro k n n' s G Z hd hn1 hn2 hk hf h70 hjT hjQ hg1 hg2
    obtain ⟨n, rfl⟩ : ∃ m, n = m + 1 := ⟨n - 1, by omega⟩
    obtain rfl : k = nT := by omega
    have h0 : G 0 1 = nI k := (fr_n hf).trans h70
    refine ⟨n', s, G, Z, by omega, ?_, rfl, hf, hjQ, hg1, fun _ _ => rfl, fun _ _ _ => ⟨rfl, rfl⟩⟩
    simp (disch := omega) only [s_X2_sharePower_11, pm_S, h0, pm_C, Nat.le_refl, ↓reduceIte]
  | succ d ih =>
    intro k n n' s G Z hd hn1 hn2 hk hf h70 hjT hjQ hg1 hg2
    obtain ⟨n, rfl⟩ : ∃ m, n = m + 1 := ⟨n - 1, by omega⟩
    obtain ⟨n', rfl⟩ : ∃ m, n' = m + 1 := ⟨n' - 1, by omega⟩
    have h0 : G 0 1 = nI nT := (fr_n hf).trans h70
    have hck : ¬ nT ≤ k := by omega
    have hkt : k < nT := by omega
    have hk10 : k < 10 := by omega
    obtain ⟨-, ⟨r, hr, hzr⟩, f, hf4, hzf⟩ := hjT k hkt
    have hgr : G (k + 15) 2 = nI r := (fr_t2 hf hkt).trans hzr
    have hgf : G (k + 15) 3 = nI f := (fr_t3 hf hkt).trans hzf
    have hv := fw_le (x := x) hr
    have hfull := qc_full (t := k) hr hx hgr
    have hfulm := qm_full (M := M) (Z := Z) hk10 hr hx hzr
    obtain ⟨a, b, hza, hzb, hab⟩ := hg2 k (Nat.le_refl _) hkt
    have go : ∀ c' u : Nat, c' ≤ 4 → u ≤ fw r x → s_X2_sharePower_11 (n + 1) x1 (nI c) (nI x) s (nI k) G = s_X2_sharePower_72 (fun x1a x2a x3a x4a x5a Ga => s_X2_sharePower_11 n x1a x2a x3a x4a x5a Ga) x1 (nI c) (nI x) s (nI k) (nI (fw r x)) (nI c') (nI u) G → s_X9_goHour_158 (n' + 1) x1 (nI x) (nI c) s (nI k) (cr_pa M 1 Z) = s_X9_goHour_218 (fun x1a x2a x3a x4a x5a Ga => s_X9_goHour_158 n' x1a x2a x3a x4a x5a Ga) x1 (nI x) (nI c) s (nI k) (nI (fw r x)) (nI c') (nI u) (cr_pa M 1 Z) → ∃ (n2 : Nat) (s' : Int32) (G' : cr_G) (Z' : Nat → Int32), 0 < n2 ∧ s_X2_sharePower_11 (n + 1) x1 (nI c) (nI x) s (nI k) G = some (s', G') ∧ s_X9_goHour_158 (n' + 1) x1 (nI x) (nI c) s (nI k) (cr_pa M 1 Z) = s_X9_goHour_158 n2 x1 (nI x) (nI c) s' (nI nT) (cr_pa M 1 Z') ∧ fr nT nB nL nP nW G' Z' ∧ jQ nT Z' ∧ (∀ t, t < nT → GW (g + 1) Z' t) ∧ (∀ i, (i < 50 ∨ (70 ≤ i ∧ i < 177) ∨ 182 ≤ i) → Z' i = Z i) ∧ (∀ t, nT ≤ t → t < 10 → Z' (50 + t) = Z (50 + t) ∧ Z' (60 + t) = Z (60 + t)) := by
      intro c' u hc' hu hcl hml
      have m5 : mp (k + 15) 5 = 50 + k := by rw [mp_t]
      have m6 : mp (k + 15) 6 = 60 + k := by rw [mp_t]
      have l5 : lvp nT nB nL nP nW (k + 15) 5 := by simp only [lvp]; omega
      have l6 : lvp nT nB nL nP nW (k + 15) 6 := by simp only [lvp]; omega
      have l14 : lvp nT nB nL nP nW 14 c' := by
        have h5 : c' < 5 := by omega
        simp [lvp, h5]
      have f1 := fr_pt (Z (50 + k) + nI u) hn hf l5
      rw [m5] at f1
      have f2 := fr_pt (Z (60 + k) + nI (fw r x - u)) hn f1 l6
      rw [m6] at f2
      have f3 : fr nT nB nL nP nW _ (upd _ (177 + c') (Z (177 + c') + nI u)) := fr_pt (Z (177 + c') + nI u) hn f2 l14
      have o3 : ∀ i, i ≠ 50 + k → i ≠ 60 + k → i ≠ 177 + c' → upd (upd (upd Z (50 + k) (Z (50 + k) + nI u)) (60 + k) (Z (60 + k) + nI (fw r x - u))) (177 + c') (Z (177 + c') + nI u) i = Z i := fun i h1 h2 h3 => by rw [pm_un _ _ h3, pm_un _ _ h2, pm_un _ _ h1]
      have hjQ' : jQ nT (upd (upd (upd Z (50 + k) (Z (50 + k) + nI u)) (60 + k) (Z (60 + k) + nI (fw r x - u))) (177 + c') (Z (177 + c') + nI u)) := by
        unfold jQ at hjQ ⊢
        rw [sI_congr (c := 5) (g := fun i => upd Z (177 + c') (Z (177 + c') + nI u) (177 + i)) (fun i hi => by
          by_cases e : i = c'
          · subst e
            rw [pm_u, pm_u]
          · rw [pm_un _ _ (by omega), pm_un _ _ (by omega), pm_un _ _ (by omega), pm_un _ _ (by omega)]), sI_congr (c := nT) (g := fun i => upd Z (50 + k) (Z (50 + k) + nI u) (50 + i)) (fun i hi => by
          rw [pm_un _ _ (by omega), pm_un _ _ (by omega)]), sI_upd Z 177 (nI u) 5 c' (by omega), sI_upd Z 50 (nI u) nT k hkt, hjQ]
      obtain ⟨n2, s', G', Z', b0, b1, b2, b3, b4, b5, b6, b7⟩ := ih (k + 1) n n' (s + nI u) _ _ (by omega) (by omega) (by omega) (by omega) f3 (by rw [o3 _ (by omega) (by omega) (by omega)]; exact h70) (jT_c hjT hT (fun i hi => o3 i (by omega) (by omega) (by omega))) hjQ' (fun t ht => by
        by_cases e : t = k
        · subst e
          refine ⟨a + u, b + (fw r x - u), ?_, ?_, by omega⟩
          · rw [pm_un _ _ (by omega), pm_un _ _ (by omega), pm_u, hza, pm_add]
          · rw [pm_un _ _ (by omega), pm_u, hzb, pm_add]
        · obtain ⟨a', b', h1, h2, h3⟩ := hg1 t (by omega)
          exact ⟨a', b', by rw [o3 _ (by omega) (by omega) (by omega)]; exact h1, by rw [o3 _ (by omega) (by omega) (by omega)]; exact h2, h3⟩) (fun t ht ht' => by
        obtain ⟨a', b', h1, h2, h3⟩ := hg2 t (by omega) ht'
        exact ⟨a', b', by rw [o3 _ (by omega) (by omega) (by omega)]; exact h1, by rw [o3 _ (by omega) (by omega) (by omega)]; exact h2, h3⟩)
      refine ⟨n2, s', G', Z', b0, ?_, ?_, b3, b4, b5, fun i hi => ?_, fun t h1 h2 => ?_⟩
      · rw [hcl]
        have n1 : ¬ c' < 0 := by omega
        have n2' : ¬ 5 ≤ c' := by omega
        have e14 : (14 : Nat) ≠ k + 15 := by omega
        simp (disch := omega) only [s_X2_sharePower_72, ↓pm_bd, pm_lit, pm_S, pm_gd, pm_C, n1, n2', fr_t5 hf hkt, fr_t6 hf hkt, pm_pt, pm_ptne, fr_q hf (show c' < 5 by omega), ↓reduceIte]
        exact b1
      · rw [hml]
        simp (disch := omega) only [s_X9_goHour_218, ↓pm_bd, pm_lit, pm_S, pm_gd]
        exact b2
      · rw [b6 i hi, o3 i (by omega) (by omega) (by omega)]
      · rw [(b7 t h1 h2).1, (b7 t h1 h2).2, o3 _ (by omega) (by omega) (by omega), o3 _ (by omega) (by omega) (by omega)]
        exact ⟨rfl, rfl⟩
    have hvf : fw r x * f ≤ 50 * 4 := Nat.mul_le_mul hv hf4
    have hlf : fw r x * f / 4 ≤ fw r x := by
      have h4 : fw r x * f ≤ fw r x * 4 := Nat.mul_le_mul_left _ hf4
      omega
    by_cases e1 : nI k = x1
    · by_cases e4 : c = 4
      · subst e4
        refine go 4 (fw r x) (by omega) (Nat.le_refl _) ?_ ?_
        · simp (disch := omega) only [s_X2_sharePower_11, s_X2_sharePower_44, ↓pm_bd, pm_lit, pm_S, pm_gd, pm_C, h0, hck, hfull, pm_cl, eq_true e1, ↓reduceIte]
        · simp (disch := omega) only [s_X9_goHour_158, s_X9_goHour_190, ↓pm_bd, pm_lit, pm_S, pm_gd, pm_C, h70, hck, hfulm, pm_cl, eq_true e1, ↓reduceIte]
      · refine go c (fw r x * f / 4) hc hlf ?_ ?_
        · simp (disch := omega) only [s_X2_sharePower_11, s_X2_sharePower_44, ↓pm_bd, pm_lit, pm_S, pm_gd, pm_C, h0, hck, hfull, pm_cl, eq_true e1, e4, hgf, pk_mul, pk_div, ↓reduceIte]
        · simp (disch := omega) only [s_X9_goHour_158, s_X9_goHour_190, ↓pm_bd, pm_lit, pm_S, pm_gd, pm_C, h70, hck, hfulm, pm_cl, eq_true e1, e4, hzf, pk_mul, pk_div, ↓reduceIte]
    · have e4 : ¬ (0 : Nat) = 4 := by omega
      refine go 0 (fw r x * f / 4) (by omega) hlf ?_ ?_
      · simp (disch := omega) only [s_X2_sharePower_11, s_X2_sharePower_44, ↓pm_bd, pm_lit, pm_S, pm_gd, pm_C, h0, hck, hfull, pm_cl, e1, e4, hgf, pk_mul, pk_div, ↓reduceIte]
      · simp (disch := omega) only [s_X9_goHour_158, s_X9_goHour_190, ↓pm_bd, pm_lit, pm_S, pm_gd, pm_C, h70, hck, hfulm, pm_cl, e1, e4, hzf, pk_mul, pk_div, ↓reduceIte]
/-! ### an hour: the faults worsen -/
theorem within_n {a lo hi : Nat} (ha : a < 2 ^ 31) (hlo : lo < 2 ^ 31) (hhi : hi < 2 ^ 31) : s_X9_within (nI a) (nI lo) (nI hi) = some (decide (lo ≤ a ∧ a ≤ hi)) := by
  by_cases e1 : a < lo
  · have e2 : ¬ (lo ≤ a ∧ a ≤ hi) := by omega
    simp (disch := omega) only [s_X9_within, pm_C, e1, e2, ↓reduceIte, decide_false]
  · by_cases e3 : hi < a
    · have e2 : ¬ (lo ≤ a ∧ a ≤ hi) := by omega
      simp (disch := omega) only [s_X9_within, pm_C, e1, e3, e2, ↓reduceIte, decide_false]
    · have e2 : (lo ≤ a ∧ a ≤ hi) := by omega
      simp (disch := omega) only [s_X9_within, pm_C, e1, e3, e2, ↓reduceIte, decide_true, and_self]
theorem q_worsen_loop {nT nB nL nP nW : Nat} (M : cr_G) (hn : okn nT nB nL nP nW) (x1 y0 : Int32) (c : Nat) (hc : c ≤ 4) (hsk : ∀ t, t < nT → (nI t = y0 ↔ (nI t = x1 ∧ c = 4))) (s : Int32) : ∀ (d k n n' : Nat) (G : cr_G) (Z : Nat → Int32), nT - k = d → d < n → d < n' → k ≤ nT → fr nT nB nL nP nW G Z → Z 70 = nI nT → jT nT Z → ∃ (G' : cr_G) (Z' : Nat → Int32), s_X2_worsen_2 n y0 (nI k) G = some G' ∧ s_X9_goHour_356 n' x1 (nI c) s (nI k) (cr_pa M 1 Z) = some (s, cr_pa M 1 (upd Z' 182 (Z' 182 + nI 1))) ∧ fr nT nB nL nP nW G' Z' ∧ jT nT Z' ∧ (∀ i, (∀ t, t < nT → i ≠ 30 + t ∧ i ≠ 40 + t) → Z' i = Z i) := by
  have hT : nT ≤ 10 := hn.1
  intro d
  induction d with
  | zero =>
    intro k n n' G Z hd hn1 hn2 hk hf h70 hjT
    obtain ⟨n, rfl⟩ : ∃ m, n = m + 1 := ⟨n - 1, by omega⟩
    obtain ⟨n', rfl⟩ : ∃ m, n' = m + 1 := ⟨n' - 1, by omega⟩
    obtain rfl : k = nT := by omega
    have h0 : G 0 1 = nI k := (fr_n hf).trans h70
    refine ⟨G, Z, ?_, ?_, hf, hjT, fun _ _ => rfl⟩
    · simp (disch := omega) only [s_X2_worsen_2, pm_S, h0, pm_C, Nat.le_refl, ↓reduceIte]
    · simp (disch := omega) only [s_X9_goHour_356, ↓pm_bd, pm_lit, pm_S, h70, pm_C, Nat.le_refl, ↓reduceIte]
  | succ d ih =>
    intro k n n' G Z hd hn1 hn2 hk hf h70 hjT
    obtain ⟨n, rfl⟩ : ∃ m, n = m + 1 := ⟨n - 1, by omega⟩
    obtain ⟨n', rfl⟩ : ∃ m, n' = m + 1 := ⟨n' - 1, by omega⟩
    have h0 : G 0 1 = nI nT := (fr_n hf).trans h70
    have hck : ¬ nT ≤ k := by omega
    have hkt : k < nT := by omega
    have hk10 : k < 10 := by omega
    obtain ⟨f, hf4, hzf⟩ := (hjT k hkt).2.2
    have hgf : G (k + 15) 3 = nI f := (fr_t3 hf hkt).trans hzf
    have hga : G (k + 15) 4 = Z (40 + k) := fr_t4 hf hkt
    have hgw : G 13 3 = Z 74 := fr_s hf (show 3 < 7 by omega)
    -- nothing is done for this one
    have stay : s_X2_worsen_2 (n + 1) y0 (nI k) G = s_X2_worsen_2 n y0 (nI (k + 1)) G → s_X9_goHour_356 (n' + 1) x1 (nI c) s (nI k) (cr_pa M 1 Z) = s_X9_goHour_356 n' x1 (nI c) s (nI (k + 1)) (cr_pa M 1 Z) → ∃ (G' : cr_G) (Z' : Nat → Int32), s_X2_worsen_2 (n + 1) y0 (nI k) G = some G' ∧ s_X9_goHour_356 (n' + 1) x1 (nI c) s (nI k) (cr_pa M 1 Z) = some (s, cr_pa M 1 (upd Z' 182 (Z' 182 + nI 1))) ∧ fr nT nB nL nP nW G' Z' ∧ jT nT Z' ∧ (∀ i, (∀ t, t < nT → i ≠ 30 + t ∧ i ≠ 40 + t) → Z' i = Z i) := by
      intro e1 e2
      rw [e1, e2]
      exact ih (k + 1) n n' G Z (by omega) (by omega) (by omega) (by omega) hf h70 hjT
    by_cases w : 1 ≤ f ∧ f ≤ 3
    · by_cases sk : nI k = y0
      · obtain ⟨sx, sc⟩ := (hsk k hkt).mp sk
        subst sc
        refine stay ?_ ?_
        · simp (disch := omega) only [s_X2_worsen_2, ↓pm_bd, pm_lit, pm_S, pm_C, h0, hck, eq_true sk, ↓reduceIte]
        · simp (disch := omega) only [s_X9_goHour_356, ↓pm_bd, pm_lit, pm_S, pm_gd, pm_C, h70, hck, hzf, within_n, w, and_self, decide_true, pm_cl, eq_true sx, ↓reduceIte]
      · have sk' : ¬ (nI k = x1 ∧ c = 4) := fun h => sk ((hsk k hkt).mpr h)
        have l3 : lvp nT nB nL nP nW (k + 15) 3 := by simp only [lvp]; omega
        have l4 : lvp nT nB nL nP nW (k + 15) 4 := by simp only [lvp]; omega
        have m3 : mp (k + 15) 3 = 30 + k := by rw [mp_t]
        have m4 : mp (k + 15) 4 = 40 + k := by rw [mp_t]
        have f1 := fr_pt (Z (40 + k) + nI 1) hn hf l4
        rw [m4] at f1
        have n0 : ¬ f = 0 := by omega
        have n4 : ¬ f = 4 := by omega
        have h397 : s_X9_goHour_356 (n' + 1) x1 (nI c) s (nI k) (cr_pa M 1 Z) = s_X9_goHour_397 (fun x1a x3a x4a x5a Ga => s_X9_goHour_356 n' x1a x3a x4a x5a Ga) x1 (nI c) s (nI k) (cr_pa M 1 Z) := by
          by_cases e1 : nI k = x1
          · have e2 : ¬ c = 4 := fun h => sk' ⟨e1, h⟩
            simp (disch := omega) only [s_X9_goHour_356, ↓pm_bd, pm_lit, pm_S, pm_gd, pm_C, h70, hck, hzf, within_n, w, and_self, decide_true, pm_cl, eq_true e1, e2, ↓reduceIte]
          · simp (disch := omega) only [s_X9_goHour_356, ↓pm_bd, pm_lit, pm_S, pm_gd, pm_C, h70, hck, hzf, within_n, w, and_self, decide_true, pm_cl, e1, ↓reduceIte]
        by_cases aw : Z (40 + k) + nI 1 < Z 74
        · obtain ⟨G', Z', b1, b2, b3, b4, b5⟩ := ih (k + 1) n n' _ _ (by omega) (by omega) (by omega) (by omega) f1 (by rw [pm_un _ _ (by omega)]; exact h70) (jT_c hjT hT (fun i hi => pm_un _ _ (by omega)))
          refine ⟨G', Z', ?_, ?_, b3, b4, fun i hi => ?_⟩
          · simp (disch := omega) only [s_X2_worsen_2, s_X5_growOlder, ↓pm_bd, pm_lit, pm_S, pm_gd, pm_C, h0, hck, sk, hgf, n0, n4, hga, hgw, pm_pt, aw, pm_cl, ↓reduceIte]
            exact b1
          · rw [h397]
            simp (disch := omega) only [s_X9_goHour_397, ↓pm_bd, pm_lit, pm_S, pm_gd, aw, ↓reduceIte]
            exact b2
          · rw [b5 i hi, pm_un _ _ (hi k hkt).2]
        · have f2 := fr_pt (nI (f + 1)) hn f1 l3
          rw [m3] at f2
          have f3 := fr_pt (nI 0) hn f2 l4
          rw [m4] at f3
          have o3 : ∀ i, i ≠ 30 + k → i ≠ 40 + k → upd (upd (upd Z (40 + k) (Z (40 + k) + nI 1)) (30 + k) (nI (f + 1))) (40 + k) (nI 0) i = Z i := fun i h1 h2 => by rw [pm_un _ _ h2, pm_un _ _ h1, pm_un _ _ h2]
          obtain ⟨G', Z', b1, b2, b3, b4, b5⟩ := ih (k + 1) n n' _ _ (by omega) (by omega) (by omega) (by omega) f3 (by rw [o3 _ (by omega) (by omega)]; exact h70) (fun t ht => by
            refine ⟨?_, ?_, ?_⟩
            · rw [o3 _ (by omega) (by omega)]; exact (hjT t ht).1
            · rw [o3 _ (by omega) (by omega)]; exact (hjT t ht).2.1
            · by_cases e : t = k
              · subst e
                rw [pm_un _ _ (by omega), pm_u]
                exact ⟨f + 1, by omega, rfl⟩
              · rw [o3 _ (by omega) (by omega)]; exact (hjT t ht).2.2)
          refine ⟨G', Z', ?_, ?_, b3, b4, fun i hi => ?_⟩
          · simp (disch := omega) only [s_X2_worsen_2, s_X5_growOlder, ↓pm_bd, pm_lit, pm_S, pm_gd, pm_C, h0, hck, sk, hgf, n0, n4, hga, hgw, pm_pt, aw, pm_cl, ↓reduceIte]
            exact b1
          · rw [h397]
            have ec : upd (upd (upd Z (40 + k) (Z (40 + k) + nI 1)) (40 + k) (nI 0)) (30 + k) (nI (f + 1)) = upd (upd (upd Z (40 + k) (Z (40 + k) + nI 1)) (30 + k) (nI (f + 1))) (40 + k) (nI 0) := upd_comm (by omega)
            simp (disch := omega) only [s_X9_goHour_397, ↓pm_bd, pm_lit, pm_S, pm_gd, aw, hzf, ↓reduceIte]
            rw [ec]
            exact b2
          · rw [b5 i hi, o3 i (hi k hkt).1 (hi k hkt).2]
    · refine stay ?_ ?_
      · by_cases sk : nI k = y0
        · simp (disch := omega) only [s_X2_worsen_2, ↓pm_bd, pm_lit, pm_S, pm_C, h0, hck, eq_true sk, ↓reduceIte]
        · by_cases e0 : f = 0
          · simp (disch := omega) only [s_X2_worsen_2, s_X5_growOlder, ↓pm_bd, pm_lit, pm_S, pm_gd, pm_C, h0, hck, sk, hgf, e0, pm_cl, ↓reduceIte]
          · have e4 : f = 4 := by omega
            subst e4
            simp (disch := omega) only [s_X2_worsen_2, s_X5_growOlder, ↓pm_bd, pm_lit, pm_S, pm_gd, pm_C, h0, hck, sk, hgf, e0, pm_cl, ↓reduceIte]
      · simp (disch := omega) only [s_X9_goHour_356, ↓pm_bd, pm_lit, pm_S, pm_gd, pm_C, h70, hck, hzf, within_n, w, decide_false, pm_cl, ↓reduceIte, Bool.false_eq_true]
