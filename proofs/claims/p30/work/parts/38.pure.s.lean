/-! ### bogs -/
theorem lvp_B {nT nB mB nL nP nW j i : Nat} (hl : lvp nT mB nL nP nW j i) (h6 : j ≠ 3) (h7 : j ≠ 4) : lvp nT nB nL nP nW j i := by
  rcases hl with h | h | h | h | h | h | h | h | h | h | h | h | h | h | h
  · exact Or.inl h
  · exact Or.inr (Or.inl h)
  · exact absurd h.1 h6
  · exact absurd h.1 h7
  · exact Or.inr (Or.inr (Or.inr (Or.inr (Or.inl h))))
  · exact Or.inr (Or.inr (Or.inr (Or.inr (Or.inr (Or.inl h)))))
  · exact Or.inr (Or.inr (Or.inr (Or.inr (Or.inr (Or.inr (Or.inl h))))))
  · exact Or.inr (Or.inr (Or.inr (Or.inr (Or.inr (Or.inr (Or.inr (Or.inl h)))))))
  · exact Or.inr (Or.inr (Or.inr (Or.inr (Or.inr (Or.inr (Or.inr (Or.inr (Or.inl h))))))))
  · exact Or.inr (Or.inr (Or.inr (Or.inr (Or.inr (Or.inr (Or.inr (Or.inr (Or.inr (Or.inl h)))))))))
  · exact Or.inr (Or.inr (Or.inr (Or.inr (Or.inr (Or.inr (Or.inr (Or.inr (Or.inr (Or.inr (Or.inl h))))))))))
  · exact Or.inr (Or.inr (Or.inr (Or.inr (Or.inr (Or.inr (Or.inr (Or.inr (Or.inr (Or.inr (Or.inr (Or.inl h)))))))))))
  · exact Or.inr (Or.inr (Or.inr (Or.inr (Or.inr (Or.inr (Or.inr (Or.inr (Or.inr (Or.inr (Or.inr (Or.inr (Or.inl h))))))))))))
  · exact Or.inr (Or.inr (Or.inr (Or.inr (Or.inr (Or.inr (Or.inr (Or.inr (Or.inr (Or.inr (Or.inr (Or.inr (Or.inr (Or.inl h)))))))))))))
  · exact Or.inr (Or.inr (Or.inr (Or.inr (Or.inr (Or.inr (Or.inr (Or.inr (Or.inr (Or.inr (Or.inr (Or.inr (Or.inr (Or.inr (h))))))))))))))
/-- the rows of the bogs changed on both sides -/
theorem fr_bogs {nT nB mB nL nP nW : Nat} {G G' : cr_G} {Z Z' : Nat → Int32} (hn : okn nT mB nL nP nW) (hf : fr nT nB nL nP nW G Z) (hG : ∀ j, j ≠ 2 → j ≠ 3 → j ≠ 4 → G' j = G j) (hZ : ∀ k, (k < 127 ∨ 140 ≤ k) → Z' k = Z k) (h2 : G' 2 2 = Z' 127) (h3 : ∀ i, i < mB → G' 3 i = Z' (128 + i)) (h4 : ∀ i, i < mB → G' 4 i = Z' (134 + i)) : fr nT mB nL nP nW G' Z' := by
  refine fr_ext (fun j => j = 2 ∨ j = 3 ∨ j = 4) hn hf (fun j i hl hr => ?_) (fun j i hl hr => ⟨lvp_B hl (fun e => hr (Or.inr (Or.inl e))) (fun e => hr (Or.inr (Or.inr e))), hG j (fun e => hr (Or.inl e)) (fun e => hr (Or.inr (Or.inl e))) (fun e => hr (Or.inr (Or.inr e)))⟩) (fun k hk => ?_)
  · rcases hr with rfl | rfl | rfl
    · have hi : i = 2 := by simpa [lvp] using hl
      subst hi
      exact h2
    · exact h3 i (by simpa [lvp] using hl)
    · exact h4 i (by simpa [lvp] using hl)
  · have k5 : ¬ (127 ≤ k ∧ k < 128) := fun hh => hk (Or.inl (rw_2 hh))
    have k6 : ¬ (128 ≤ k ∧ k < 134) := fun hh => hk (Or.inr (Or.inl (rw_3 hh)))
    have k7 : ¬ (134 ≤ k ∧ k < 140) := fun hh => hk (Or.inr (Or.inr (rw_4 hh)))
    exact hZ k (by omega)
theorem J_bogs {nT nB mB nL nP nW h g : Nat} {Z Z' : Nat → Int32} (hJ : J nT nB nL nP nW h g Z) (hm : mB ≤ 6) (hZ : ∀ k, (k < 127 ∨ 140 ≤ k) → Z' k = Z k) (h2 : Z' 127 = nI mB) (hB : jB mB Z') : J nT mB nL nP nW h g Z' := by
  obtain ⟨⟨b0, b1, b2, b3, b4, b5, b6⟩, a2, a3, a4, a5, a6, a7, a8, a9, a10⟩ := hJ
  exact ⟨⟨by unfold okn at b0 ⊢; omega, (hZ _ (by omega)).trans b1, h2, (hZ _ (by omega)).trans b3, (hZ _ (by omega)).trans b4, (hZ _ (by omega)).trans b5, (hZ _ (by omega)).trans b6⟩, jS_c a2 (hZ _ (by omega)) (hZ _ (by omega)), jT_c a3 b0.1 (fun k hk => hZ k (by omega)), jG_c a4 b0.1 (fun k hk => hZ k (by omega)), jQ_c a5 b0.1 (fun k hk => hZ k (by omega)), jP_c a6 b0.2.2.2.1 (fun k hk => hZ k (by omega)), jK_c a7 (fun k hk => hZ k (by omega)), hB, jW_c a9 b0.2.2.2.2 (fun k hk => hZ k (by omega)), jD_c a10 (fun k hk => hZ k (by omega))⟩
theorem qc_indexAt_n (G : cr_G) (c : Nat) (x : Int32) (hc : c ≤ 6) (h2 : G 2 2 = nI c) : ∀ d k n, c - k = d → d < n → k ≤ 6 → (∀ i, k ≤ i → i < c → G 3 i ≠ x) → s_X0_indexAt_2 G n x (nI k) = some mI := by
  intro d
  induction d with
  | zero =>
    intro k n hd hn hk hx
    obtain ⟨n, rfl⟩ : ∃ m, n = m + 1 := ⟨n - 1, by omega⟩
    have hck : c ≤ k := by omega
    simp (disch := omega) only [s_X0_indexAt_2, ↓pm_m1, h2, pm_C, hck, ↓reduceIte]
  | succ d ih =>
    intro k n hd hn hk hx
    obtain ⟨n, rfl⟩ : ∃ m, n = m + 1 := ⟨n - 1, by omega⟩
    have hck : ¬ c ≤ k := by omega
    have hne : ¬ G 3 k = x := hx k (by omega) (by omega)
    simp (disch := omega) only [s_X0_indexAt_2, ↓pm_bd, pm_gd, pm_lit, pm_S, pm_C, h2, hck, hne, ↓reduceIte]
    exact ih (k + 1) n (by omega) (by omega) (by omega) (fun i h1 h2 => hx i (by omega) h2)
theorem qc_indexAt_s (G : cr_G) (c p : Nat) (x : Int32) (hc : c ≤ 6) (h2 : G 2 2 = nI c) (hp : p < c) (hpx : G 3 p = x) : ∀ d k n, p - k = d → d < n → k ≤ p → (∀ i, k ≤ i → i < p → G 3 i ≠ x) → s_X0_indexAt_2 G n x (nI k) = some (nI p) := by
  intro d
  induction d with
  | zero =>
    intro k n hd hn hk hx
    obtain ⟨n, rfl⟩ : ∃ m, n = m + 1 := ⟨n - 1, by omega⟩
    have hck : ¬ c ≤ k := by omega
    obtain rfl : k = p := by omega
    simp (disch := omega) only [s_X0_indexAt_2, ↓pm_bd, pm_gd, pm_lit, pm_S, pm_C, h2, hck, hpx, ↓reduceIte]
  | succ d ih =>
    intro k n hd hn hk hx
    obtain ⟨n, rfl⟩ : ∃ m, n = m + 1 := ⟨n - 1, by omega⟩
    have hck : ¬ c ≤ k := by omega
    have hne : ¬ G 3 k = x := hx k (by omega) (by omega)
    simp (disch := omega) only [s_X0_indexAt_2, ↓pm_bd, pm_gd, pm_lit, pm_S, pm_C, h2, hck, hne, ↓reduceIte]
    exact ih (k + 1) n (by omega) (by omega) (by omega) (fun i h1 h2 => hx i (by omega) h2)
theorem qc_brem_25 (G : cr_G) (c : Nat) (hc : c < 6) (h5 : G 2 2 = nI c) : ∀ (d k n : Nat) (a b : Nat → Int32), c - k = d → d < n → k ≤ 6 → s_X0_removeAt_25 n (nI k) (cr_pa (cr_pa G 3 a) 4 b) = some (cr_pa (cr_pa G 3 (sl a 0 k c)) 4 (sl b 0 k c)) := by
  intro d
  induction d with
  | zero =>
    intro k n a b hd hn hk
    obtain ⟨n, rfl⟩ : ∃ m, n = m + 1 := ⟨n - 1, by omega⟩
    have hck : c ≤ k := by omega
    simp (disch := omega) only [s_X0_removeAt_25, pm_S, h5, pm_C, hck, ↓reduceIte, sl_id hck]
  | succ d ih =>
    intro k n a b hd hn hk
    obtain ⟨n, rfl⟩ : ∃ m, n = m + 1 := ⟨n - 1, by omega⟩
    have hck : ¬ c ≤ k := by omega
    simp (disch := omega) only [s_X0_removeAt_25, ↓pm_bd, pm_gd, pm_lit, pm_S, pm_ptn, pm_C, h5, hck, ↓reduceIte]
    rw [ih (k + 1) n _ _ (by omega) (by omega) (by omega), sl_step0 (by omega), sl_step0 (by omega)]
theorem qc_brem {G : cr_G} {c p : Nat} (hc : c ≤ 6) (h5 : G 2 2 = nI c) (hp : p < c) : s_X0_removeAt (nI p) G = some (cr_pa (cr_pa (cr_pt G 2 2 (nI (c - 1))) 3 (sl (G 3) 0 p (c - 1))) 4 (sl (G 4) 0 p (c - 1))) := by
  have h1 : ¬ p < 0 := by omega
  simp (disch := omega) only [s_X0_removeAt, ↓pm_bd, pm_lit, pm_S, pm_C, h5, hp, h1, ↓reduceIte]
  have h2 : cr_pa (cr_pa (cr_pt G 2 2 (nI (c - 1))) 3 (G 3)) 4 (G 4) = cr_pt G 2 2 (nI (c - 1)) := by
    have e6 : cr_pa (cr_pt G 2 2 (nI (c - 1))) 3 (G 3) = cr_pt G 2 2 (nI (c - 1)) := by
      have := pm_self (cr_pt G 2 2 (nI (c - 1))) 3
      rwa [pm_ptne G 2 _ (show (3 : Nat) ≠ 2 by omega)] at this
    have e7 : cr_pa (cr_pt G 2 2 (nI (c - 1))) 4 (G 4) = cr_pt G 2 2 (nI (c - 1)) := by
      have := pm_self (cr_pt G 2 2 (nI (c - 1))) 4
      rwa [pm_ptne G 2 _ (show (4 : Nat) ≠ 2 by omega)] at this
    rw [e6, e7]
  have h3 := qc_brem_25 (cr_pt G 2 2 (nI (c - 1))) (c - 1) (by omega) (by rw [pm_pt, pm_u]) (c - 1 - p) p 1200 (G 3) (G 4) rfl (by omega) (by omega)
  rw [h2] at h3
  exact h3
theorem qm_brem_150 (M : cr_G) (c : Nat) (hc : c < 6) : ∀ (d k n : Nat) (Z : Nat → Int32), c - k = d → d < n → k ≤ 6 → Z 127 = nI c → s_X9_setBog_150 n (nI k) (cr_pa M 1 Z) = some (nI c, cr_pa M 1 (sl (sl Z 128 k c) 134 k c)) := by
  intro d
  induction d with
  | zero =>
    intro k n Z hd hn hk h5
    obtain ⟨n, rfl⟩ : ∃ m, n = m + 1 := ⟨n - 1, by omega⟩
    have hck : c ≤ k := by omega
    simp (disch := omega) only [s_X9_setBog_150, pm_S, h5, pm_C, hck, ↓reduceIte, sl_id hck]
  | succ d ih =>
    intro k n Z hd hn hk h5
    obtain ⟨n, rfl⟩ : ∃ m, n = m + 1 := ⟨n - 1, by omega⟩
    have hck : ¬ c ≤ k := by omega
    simp (disch := omega) only [s_X9_setBog_150, ↓pm_bd, pm_gd, pm_lit, pm_S, pm_C, h5, hck, ↓reduceIte]
    rw [ih (k + 1) n _ (by omega) (by omega) (by omega) (by simp (disch := omega) only [pm_S, h5]), sl_upd_o (by omega), sl_step (by omega)]
    have e : Z (134 + k + 1) = sl Z 128 k c (134 + k + 1) := (sl_o (by omega)).symm
    rw [e, sl_step (by omega)]
theorem qc_bins_19 (G : cr_G) (c b a : Nat) (nd : Int32) (p : Nat → Nat) (hc : c < 6) (ha : a ≤ 99) (hp : ∀ i, i < c → p i ≤ 99) (h5 : G 2 2 = nI c) (hb : b ≤ c) (hlo : ∀ i, i < b → p i ≤ a) (hhi : ∀ i, b ≤ i → i < c → a < p i) : ∀ (d k n : Nat) (h g : Nat → Int32), k - b = d → d < n → b ≤ k → k ≤ c → (∀ i, i < k → h i = nI (p i)) → s_X0_insert_19 n (nI a) nd (nI k) (nI k) (cr_pa (cr_pa G 3 h) 4 g) = some (cr_pt (cr_pa (cr_pa G 3 (upd (sr h 0 b k) b (nI a))) 4 (upd (sr g 0 b k) b nd)) 2 2 (nI (c + 1))) := by
  intro d
  induction d with
  | zero =>
    intro k n h g hd hn hk hkc hh
    obtain ⟨n, rfl⟩ : ∃ m, n = m + 1 := ⟨n - 1, by omega⟩
    obtain rfl : k = b := by omega
    have key : s_X0_insert_80 (nI a) nd (nI k) (cr_pa (cr_pa G 3 h) 4 g) = some (cr_pt (cr_pa (cr_pa G 3 (upd h k (nI a))) 4 (upd g k nd)) 2 2 (nI (c + 1))) := by
      simp (disch := omega) only [s_X0_insert_80, ↓pm_bd, pm_gd, pm_lit, pm_S, pm_ptn, h5]
    by_cases e : k ≤ 0
    · simp (disch := omega) only [s_X0_insert_19, pm_lit, pm_C, e, ↓reduceIte, sr_id]
      exact key
    · have h9 : h (k - 1) = nI (p (k - 1)) := hh (k - 1) (by omega)
      have h10 := hlo (k - 1) (by omega)
      have h11 := hp (k - 1) (by omega)
      simp (disch := omega) only [s_X0_insert_19, ↓pm_bd, pm_gd, pm_lit, pm_S, pm_C, e, h9, h10, ↓reduceIte, sr_id]
      exact key
  | succ d ih =>
    intro k n h g hd hn hk hkc hh
    obtain ⟨n, rfl⟩ : ∃ m, n = m + 1 := ⟨n - 1, by omega⟩
    have e : ¬ k ≤ 0 := by omega
    have h9 : h (k - 1) = nI (p (k - 1)) := hh (k - 1) (by omega)
    have h10 : ¬ p (k - 1) ≤ a := by
      have := hhi (k - 1) (by omega) (by omega)
      omega
    have h11 := hp (k - 1) (by omega)
    simp (disch := omega) only [s_X0_insert_19, ↓pm_bd, pm_gd, ↓pm_m1, pm_lit, pm_S, pm_ptn, pm_C, e, h9, h10, pm_am1, ↓reduceIte]
    rw [← h9, ih (k - 1) n _ _ (by omega) (by omega) (by omega) (by omega) (fun i hi => by rw [pm_un _ _ (by omega)]; exact hh i (by omega)), sr_step0 (by omega), sr_step0 (by omega), pm_ptn _ _ _ _ (show (2 : Nat) ≠ 4 by omega), pm_ptn _ _ _ _ (show (2 : Nat) ≠ 3 by omega)]
theorem sr_o {f : Nat → Int32} {a p c i : Nat} (h : i ≤ a + p ∨ a + c < i) : sr f a p c i = f i := by
  simp only [sr]
  rw [if_neg (by omega)]
theorem sr_upd_o {f : Nat → Int32} {a p c i0 : Nat} {v : Int32} (h : i0 < a + p ∨ a + c < i0) : sr (upd f i0 v) a p c = upd (sr f a p c) i0 v := by
  funext i
  simp only [sr, upd]
  by_cases e : i = i0
  · subst e
    rw [if_pos rfl, if_neg (by omega), if_pos rfl]
  · by_cases e2 : a + p < i ∧ i ≤ a + c
    · simp only [if_pos e2, if_neg e, if_neg (show ¬ i - 1 = i0 by omega)]
    · simp only [if_neg e2, if_neg e]
theorem qm_bins_251 (M : cr_G) (c b : Nat) (x nd : Int32) (hc : c < 6) (hb : b ≤ c) : ∀ (d k n : Nat) (Z : Nat → Int32), k - b = d → d < n → b ≤ k → k ≤ c → Z 127 = nI c → s_X9_setBog_251 n x nd (nI b) (nI k) (cr_pa M 1 Z) = some (nI (c + 1), cr_pa M 1 (upd (upd (upd (sr (sr Z 128 b k) 134 b k) (128 + b) x) (134 + b) nd) 127 (nI (c + 1)))) := by
  intro d
  induction d with
  | zero =>
    intro k n Z hd hn hk hkc h5
    obtain ⟨n, rfl⟩ : ∃ m, n = m + 1 := ⟨n - 1, by omega⟩
    obtain rfl : k = b := by omega
    simp (disch := omega) only [s_X9_setBog_251, ↓pm_bd, pm_gd, pm_lit, pm_S, h5, pm_C, Nat.le_refl, sr_id, ↓reduceIte]
  | succ d ih =>
    intro k n Z hd hn hk hkc h5
    obtain ⟨n, rfl⟩ : ∃ m, n = m + 1 := ⟨n - 1, by omega⟩
    have hck : ¬ k ≤ b := by omega
    simp (disch := omega) only [s_X9_setBog_251, ↓pm_bd, pm_gd, ↓pm_m1, pm_lit, pm_S, pm_C, hck, pm_am1, ↓reduceIte]
    rw [ih (k - 1) n _ (by omega) (by omega) (by omega) (by omega) (by simp (disch := omega) only [pm_un]; exact h5), sr_upd_o (by omega), sr_step (by omega)]
    have e : Z (134 + k - 1) = sr Z 128 b k (134 + k - 1) := (sr_o (by omega)).symm
    rw [e, sr_step (by omega)]
theorem qm_scan (P : cr_G) (c b a : Nat) (nd : Int32) (p : Nat → Nat) (hc : c ≤ 6) (ha : a ≤ 99) (hb : b ≤ c) (h127 : P 1 127 = nI c) (hp : ∀ i, i < c → p i ≤ 99 ∧ P 1 (128 + i) = nI (p i)) (hlo : ∀ i, i < b → p i < a) (hat : b < c → a ≤ p b) : ∀ (d k n : Nat), b - k = d → d < n → k ≤ b → s_X9_setBog_33 n (nI a) nd (nI k) P = s_X9_setBog_64 (nI a) nd (nI b) P := by
  intro d
  induction d with
  | zero =>
    intro k n hd hn hk
    obtain ⟨n, rfl⟩ : ∃ m, n = m + 1 := ⟨n - 1, by omega⟩
    obtain rfl : k = b := by omega
    by_cases e : c ≤ k
    · simp (disch := omega) only [s_X9_setBog_33, h127, pm_C, e, ↓reduceIte]
    · have h9 := hat (by omega)
      obtain ⟨h10, h11⟩ := hp k (by omega)
      simp (disch := omega) only [s_X9_setBog_33, pm_gd, pm_lit, pm_S, h127, pm_C, e, h11, h9, ↓reduceIte]
  | succ d ih =>
    intro k n hd hn hk
    obtain ⟨n, rfl⟩ : ∃ m, n = m + 1 := ⟨n - 1, by omega⟩
    have e : ¬ c ≤ k := by omega
    obtain ⟨h10, h11⟩ := hp k (by omega)
    have h9 : ¬ a ≤ p k := by have := hlo k (by omega); omega
    simp (disch := omega) only [s_X9_setBog_33, ↓pm_bd, pm_gd, pm_lit, pm_S, h127, pm_C, e, h11, h9, ↓reduceIte]
    exact ih (k + 1) n (by omega) (by omega) (by omega)
