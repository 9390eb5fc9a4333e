/-! ### a new turbine -/
theorem qc_hasAt_n (G : cr_G) (c : Nat) (x : Int32) (hc : c ≤ 10) (h0 : G 0 1 = nI c) : ∀ d k n, c - k = d → d < n → k ≤ 10 → (∀ i, k ≤ i → i < c → G (i + 15) 0 ≠ x) → s_X2_hasTurbineAt_2 G n x (nI k) = some false := by
  intro d
  induction d with
  | zero =>
    intro k n hd hn hk hx
    obtain ⟨n, rfl⟩ : ∃ m, n = m + 1 := ⟨n - 1, by omega⟩
    have hck : c ≤ k := by omega
    simp (disch := omega) only [s_X2_hasTurbineAt_2, h0, pm_C, hck, ↓reduceIte]
  | succ d ih =>
    intro k n hd hn hk hx
    obtain ⟨n, rfl⟩ : ∃ m, n = m + 1 := ⟨n - 1, by omega⟩
    have hck : ¬ c ≤ k := by omega
    have hne : ¬ G (k + 15) 0 = x := hx k (by omega) (by omega)
    simp (disch := omega) only [s_X2_hasTurbineAt_2, ↓pm_bd, pm_gd, pm_lit, pm_S, pm_C, h0, hck, hne, ↓reduceIte]
    exact ih (k + 1) n (by omega) (by omega) (by omega) (fun i h1 h2 => hx i (by omega) h2)
theorem qc_hasAt_s (G : cr_G) (c p : Nat) (x : Int32) (hc : c ≤ 10) (h0 : G 0 1 = nI c) (hp : p < c) (hpx : G (p + 15) 0 = x) : ∀ d k n, p - k = d → d < n → k ≤ p → (∀ i, k ≤ i → i < p → G (i + 15) 0 ≠ x) → s_X2_hasTurbineAt_2 G n x (nI k) = some true := by
  intro d
  induction d with
  | zero =>
    intro k n hd hn hk hx
    obtain ⟨n, rfl⟩ : ∃ m, n = m + 1 := ⟨n - 1, by omega⟩
    have hck : ¬ c ≤ k := by omega
    obtain rfl : k = p := by omega
    simp (disch := omega) only [s_X2_hasTurbineAt_2, ↓pm_bd, pm_gd, pm_lit, pm_S, pm_C, h0, hck, hpx, ↓reduceIte]
  | succ d ih =>
    intro k n hd hn hk hx
    obtain ⟨n, rfl⟩ : ∃ m, n = m + 1 := ⟨n - 1, by omega⟩
    have hck : ¬ c ≤ k := by omega
    have hne : ¬ G (k + 15) 0 = x := hx k (by omega) (by omega)
    simp (disch := omega) only [s_X2_hasTurbineAt_2, ↓pm_bd, pm_gd, pm_lit, pm_S, pm_C, h0, hck, hne, ↓reduceIte]
    exact ih (k + 1) n (by omega) (by omega) (by omega) (fun i h1 h2 => hx i (by omega) h2)
/-- the model's loop goes on with 1 -/
theorem qm_add_1 (P : cr_G) (c : Nat) (x1 x2 x3 : Int32) (hc : c ≤ 10) (h70 : P 1 70 = nI c) : ∀ d k n, c - k = d → d < n → k ≤ 10 → s_X9_addTurbine_65 n x1 x2 x3 (nI 1) (nI k) P = some (nI 0, cr_pt P 0 7 (nI 2)) := by
  have n1 : ¬ nI 1 = nI 0 := by decide
  intro d
  induction d with
  | zero =>
    intro k n hd hn hk
    obtain ⟨n, rfl⟩ : ∃ m, n = m + 1 := ⟨n - 1, by omega⟩
    have hck : c ≤ k := by omega
    simp (disch := omega) only [s_X9_addTurbine_65, pm_lit, h70, nI_leI, hck, n1, qm_fails, pm_cl, ↓reduceIte]
  | succ d ih =>
    intro k n hd hn hk
    obtain ⟨n, rfl⟩ : ∃ m, n = m + 1 := ⟨n - 1, by omega⟩
    have hck : ¬ c ≤ k := by omega
    simp (disch := omega) only [s_X9_addTurbine_65, ↓pm_bd, pm_lit, h70, nI_leI, hck, n1, pm_add, ↓reduceIte]
    exact ih (k + 1) n (by omega) (by omega) (by omega)
theorem qm_add_s (P : cr_G) (c p : Nat) (x1 x2 x3 : Int32) (hc : c ≤ 10) (h70 : P 1 70 = nI c) (hp : p < c) (hpx : P 1 p = x1) : ∀ d k n, p - k = d → 20 ≤ n → k ≤ p → (∀ i, k ≤ i → i < p → P 1 i ≠ x1) → s_X9_addTurbine_65 (n + d) x1 x2 x3 (nI 0) (nI k) P = some (nI 0, cr_pt P 0 7 (nI 2)) := by
  intro d
  induction d with
  | zero =>
    intro k n hd hn hk hx
    obtain ⟨n, rfl⟩ : ∃ m, n = m + 1 := ⟨n - 1, by omega⟩
    have hck : ¬ c ≤ k := by omega
    obtain rfl : k = p := by omega
    simp (disch := omega) only [s_X9_addTurbine_65, Nat.add_zero, ↓pm_bd, pm_gd, pm_lit, pm_S, h70, nI_leI, hck, Nat.zero_add, hpx, ↓reduceIte]
    exact qm_add_1 P c x1 x2 x3 hc h70 (c - (k + 1)) (k + 1) n rfl (by omega) (by omega)
  | succ d ih =>
    intro k n hd hn hk hx
    have hck : ¬ c ≤ k := by omega
    have hne : ¬ P 1 k = x1 := hx k (by omega) (by omega)
    rw [show n + (d + 1) = (n + d) + 1 from rfl]
    simp (disch := omega) only [s_X9_addTurbine_65, ↓pm_bd, pm_gd, pm_lit, pm_S, h70, nI_leI, hck, Nat.zero_add, hne, ↓reduceIte]
    exact ih (k + 1) n (by omega) hn (by omega) (fun i h1 h2 => hx i (by omega) h2)
theorem qm_add_n (P : cr_G) (c : Nat) (x1 x2 x3 : Int32) (hc : c ≤ 10) (h70 : P 1 70 = nI c) : ∀ d k n, c - k = d → d < n → k ≤ c → (∀ i, k ≤ i → i < c → P 1 i ≠ x1) → ∃ m, s_X9_addTurbine_65 n x1 x2 x3 (nI 0) (nI k) P = s_X9_addTurbine_65 (m + 1) x1 x2 x3 (nI 0) (nI c) P := by
  intro d
  induction d with
  | zero =>
    intro k n hd hn hk hx
    obtain ⟨n, rfl⟩ : ∃ m, n = m + 1 := ⟨n - 1, by omega⟩
    obtain rfl : k = c := by omega
    exact ⟨n, rfl⟩
  | succ d ih =>
    intro k n hd hn hk hx
    obtain ⟨n, rfl⟩ : ∃ m, n = m + 1 := ⟨n - 1, by omega⟩
    have hck : ¬ c ≤ k := by omega
    have hne : ¬ P 1 k = x1 := hx k (by omega) (by omega)
    obtain ⟨m, hm⟩ := ih (k + 1) n (by omega) (by omega) (by omega) (fun i h1 h2 => hx i (by omega) h2)
    refine ⟨m, ?_⟩
    rw [← hm]
    simp (disch := omega) only [s_X9_addTurbine_65, ↓pm_bd, pm_gd, pm_lit, pm_S, h70, nI_leI, hck, Nat.zero_add, hne, ↓reduceIte]
def adT (Z : Nat → Int32) (c : Nat) (a b r : Int32) : Nat → Int32 := upd (upd (upd (upd Z c a) (10 + c) b) (20 + c) r) 70 (nI (c + 1))
theorem adT_o {Z : Nat → Int32} {c i : Nat} {a b r : Int32} (h : i ≠ c ∧ i ≠ 10 + c ∧ i ≠ 20 + c ∧ i ≠ 70) : adT Z c a b r i = Z i := by
  unfold adT
  rw [pm_un _ _ h.2.2.2, pm_un _ _ h.2.2.1, pm_un _ _ h.2.1, pm_un _ _ h.1]
def adG (G : cr_G) (c : Nat) (a b r : Int32) : cr_G := cr_pt (cr_pt (cr_pt (cr_pt (cr_pt (cr_pt (cr_pt (cr_pt G (c + 15) 0 a) (c + 15) 1 b) (c + 15) 2 r) (c + 15) 3 (nI 0)) (c + 15) 4 (nI 0)) (c + 15) 5 (nI 0)) (c + 15) 6 (nI 0)) 0 1 (nI (c + 1))
theorem fr_adT {nB nL nP nW c : Nat} {G : cr_G} {Z : Nat → Int32} {a b r : Int32} (hn : okn c nB nL nP nW) (hc : c < 10) (hf : fr c nB nL nP nW G Z) (hD : jD c Z) : fr (c + 1) nB nL nP nW (adG G c a b r) (adT Z c a b r) := by
  refine fr_ext (fun j => j = 0 ∨ j = c + 15) (by unfold okn at hn ⊢; omega) hf (fun j i hl hr => ?_) (fun j i hl hr => ⟨lvp_T hl (by omega), ?_⟩) (fun k hk => ?_)
  · rcases hr with rfl | rfl
    · have hi : i = 1 ∨ i = 9 := by simpa [lvp] using hl
      rcases hi with rfl | rfl
      · show adG G c a b r 0 1 = adT Z c a b r 70
        unfold adG adT
        simp (disch := omega) only [pm_pt, pm_u]
      · show adG G c a b r 0 9 = adT Z c a b r 182
        rw [adT_o (by omega)]
        unfold adG
        simp (disch := omega) only [pm_pt, pm_un, pm_ptne]
        exact fr_h hf
    · rw [mp_t]
      have hi : i < 7 := by
        rcases hl with h | h | h | h | h | h | h | h | h | h | h | h | h | h | h <;> omega
      have d := hD c (Nat.le_refl _) hc
      have h9 : i = 0 ∨ i = 1 ∨ i = 2 ∨ i = 3 ∨ i = 4 ∨ i = 5 ∨ i = 6 := by omega
      rcases h9 with rfl | rfl | rfl | rfl | rfl | rfl | rfl
      · unfold adG adT
        rw [show 10 * 0 + c = c by omega]
        simp (disch := omega) only [pm_ptne, pm_pt, pm_un, pm_u]
      · unfold adG adT
        rw [show 10 * 1 + c = 10 + c by omega]
        simp (disch := omega) only [pm_ptne, pm_pt, pm_un, pm_u]
      · unfold adG adT
        rw [show 10 * 2 + c = 20 + c by omega]
        simp (disch := omega) only [pm_ptne, pm_pt, pm_un, pm_u]
      · rw [adT_o (by omega), show 10 * 3 + c = 30 + c by omega, d.1]
        unfold adG
        simp (disch := omega) only [pm_ptne, pm_pt, pm_un, pm_u]
      · rw [adT_o (by omega), show 10 * 4 + c = 40 + c by omega, d.2.1]
        unfold adG
        simp (disch := omega) only [pm_ptne, pm_pt, pm_un, pm_u]
      · rw [adT_o (by omega), show 10 * 5 + c = 50 + c by omega, d.2.2.1]
        unfold adG
        simp (disch := omega) only [pm_ptne, pm_pt, pm_un, pm_u]
      · rw [adT_o (by omega), show 10 * 6 + c = 60 + c by omega, d.2.2.2]
        unfold adG
        simp (disch := omega) only [pm_ptne, pm_pt, pm_un, pm_u]
  · unfold adG
    have h0 : j ≠ 0 := fun e => hr (Or.inl e)
    have h1 : j ≠ c + 15 := fun e => hr (Or.inr e)
    simp only [pm_ptne _ _ _ h0, pm_ptne _ _ _ h1]
  · have k0 : ¬ (70 ≤ k ∧ k < 71) := fun hh => hk (Or.inl (rw_0a hh))
    have kt : ∀ i, i < 7 → k ≠ 10 * i + c := fun i hi he => hk (Or.inr (rw_t hc hi he))
    have k1 := kt 0 (by omega)
    have k2 := kt 1 (by omega)
    have k3 := kt 2 (by omega)
    exact adT_o (by omega)
theorem J_adT {nB nL nP nW c h g : Nat} {Z : Nat → Int32} {a b r : Nat} (hJ : J c nB nL nP nW h g Z) (hc : c < 10) (ha : a ≤ 99) (hr : r ≤ 50) : J (c + 1) nB nL nP nW h g (adT Z c (nI a) (nI b) (nI r)) := by
  obtain ⟨⟨b0, b1, b2, b3, b4, b5, b6⟩, a2, a3, a4, a5, a6, a7, a8, a9, a10⟩ := hJ
  have d := a10 c (Nat.le_refl _) hc
  have z0 : adT Z c (nI a) (nI b) (nI r) c = nI a := by unfold adT; rw [pm_un _ _ (by omega), pm_un _ _ (by omega), pm_un _ _ (by omega), pm_u]
  have z2 : adT Z c (nI a) (nI b) (nI r) (20 + c) = nI r := by unfold adT; rw [pm_un _ _ (by omega), pm_u]
  refine ⟨⟨by unfold okn at b0 ⊢; omega, pm_u _ _ _, (adT_o (by omega)).trans b2, (adT_o (by omega)).trans b3, (adT_o (by omega)).trans b4, (adT_o (by omega)).trans b5, (adT_o (by omega)).trans b6⟩, jS_c a2 (adT_o (by omega)) (adT_o (by omega)), fun t ht => ?_, fun t ht => ?_, ?_, ⟨fun k hk => ?_, fun k k' hk hk' he => ?_⟩, jK_c a7 (fun k hk => adT_o (by omega)), jB_c a8 b0.2.1 (fun k hk => adT_o (by omega)), jW_c a9 b0.2.2.2.2 (fun k hk => adT_o (by omega)), fun t h1 h2 => ?_⟩
  · by_cases e : t = c
    · subst e
      rw [z0, z2, adT_o (by omega), d.1]
      exact ⟨⟨a, ha, rfl⟩, ⟨r, hr, rfl⟩, 0, by omega, rfl⟩
    · rw [adT_o (by omega), adT_o (by omega), adT_o (by omega)]
      exact a3 t (by omega)
  · rw [adT_o (by omega), adT_o (by omega)]
    by_cases e : t = c
    · subst e
      exact ⟨0, 0, d.2.2.1, d.2.2.2, by omega⟩
    · exact a4 t (by omega)
  · unfold jQ at a5 ⊢
    rw [sI_congr (c := 5) (g := fun k => Z (177 + k)) (fun k hk => adT_o (by omega)), a5]
    simp only [sI]
    rw [sI_congr (c := c) (f := fun t => adT Z c (nI a) (nI b) (nI r) (50 + t)) (g := fun t => Z (50 + t)) (fun k hk => adT_o (by omega)), adT_o (by omega), d.2.2.1, pm_add0]
  · have hP := b0.2.2.2.1
    rw [adT_o (by omega)]
    obtain ⟨t, h1, h2⟩ := a6.1 k hk
    exact ⟨t, by omega, h2⟩
  · have hP := b0.2.2.2.1
    rw [adT_o (by omega), adT_o (by omega)] at he
    exact a6.2 k k' hk hk' he
  · rw [adT_o (by omega), adT_o (by omega), adT_o (by omega), adT_o (by omega)]
    exact a10 t (by omega) h2
theorem q_addTurbine {S : cr_S} {P : cr_G} (hR : R S P) (p q s : Int32) : AG S (s_X8_addTurbine S p q s) (s_X9_addTurbine p q s P) cAS := by
  obtain ⟨P0, hP0, h1, hpa, hR0, h7⟩ := q_start hR
  obtain ⟨⟨nT, nB, nL, nP, nW, h, hf, hJ, hh⟩, -⟩ := hR
  rw [← h1] at hf hJ hpa
  have hn := hJ.1.1
  have hT := hn.1
  have z70 := hJ.1.2.1
  have g01 : S.1 0 0 1 = nI nT := (fr_n hf).trans z70
  rcases q_wi p (lo := 1) (hi := 99) (by omega) (by omega) with ⟨a, ha1, ha2, rfl, c1, m1⟩ | ⟨c1, m1⟩
  · rcases q_wi q (lo := 50) (hi := 160) (by omega) (by omega) with ⟨b, hb1, hb2, rfl, c2, m2⟩ | ⟨c2, m2⟩
    · rcases q_wi s (lo := 1) (hi := 50) (by omega) (by omega) with ⟨r, hr1, hr2, rfl, c3, m3⟩ | ⟨c3, m3⟩
      · by_cases e : nT = 10
        · have e' : 10 ≤ nT := by omega
          refine Or.inr ⟨"java/lang/IllegalStateException", 2, nI 0, cr_pt P0 0 7 (nI 2), ?_, by decide, ?_, R_f hR0 2⟩
          · simp (disch := omega) only [s_X8_addTurbine, s_X8_addTurbine_65, pm_lit, c1, c2, c3, pm_cl, g01, pm_C, e', ↓reduceIte]
          · simp only [s_X9_addTurbine, ↓pm_bd, pm_lit, ← hP0]
            simp (disch := omega) only [m1, m2, m3, pm_cl, z70, pm_C, e, ↓reduceIte]
            exact qm_add_1 P0 10 _ _ _ (by omega) (by rw [← e]; exact z70) 10 0 1200 rfl (by omega) (by omega)
        · have e' : ¬ 10 ≤ nT := by omega
          have hmm : s_X9_addTurbine (nI a) (nI b) (nI r) P = s_X9_addTurbine_65 1200 (nI a) (nI b) (nI r) (nI 0) (nI 0) P0 := by
            simp only [s_X9_addTurbine, ↓pm_bd, pm_lit, ← hP0]
            simp (disch := omega) only [m1, m2, m3, pm_cl, z70, pm_C, e, ↓reduceIte]
          rcases least (P := fun i => P0 1 i = nI a) (fun k => Decidable.em _) nT with hno | ⟨k, hk1, hk2, hk3⟩
          · have hat : s_X2_hasTurbineAt (S.1 0) (nI a) = some false := by
              simp only [s_X2_hasTurbineAt, pm_lit]
              exact qc_hasAt_n (S.1 0) nT (nI a) hT g01 nT 0 1200 rfl (by omega) (by omega) (fun i _ hi => by rw [fr_t0 hf hi]; exact hno i hi)
            obtain ⟨S1, P1, e1, e2, e3, e4, e5, e6, e7, e8⟩ := q_sv hR0
            have hR2 := e7 _ _ (BLK_of (fr_adT (a := nI a) (b := nI b) (r := nI r) hn (by omega) hf hJ.2.2.2.2.2.2.2.2.2) (J_adT (b := b) hJ (by omega) ha2 hr2) hh)
            obtain ⟨m, hm⟩ := qm_add_n P0 nT (nI a) (nI b) (nI r) hT z70 nT 0 1200 rfl (by omega) (by omega) (fun i _ hi => hno i hi)
            have nt : nT < 10 := by omega
            refine Or.inl ⟨nI nT, _, _, ?_, ?_, ?_, ?_, hR2⟩
            · simp (disch := omega) only [s_X8_addTurbine, s_X2_buildTurbine, s_X5_begin, pm_lit, c1, c2, c3, pm_cl, g01, pm_C, e', hat, e1, e3, nt, ↓pm_bd, pm_S, pm_gd, pm_pt, pm_ptne, Nat.add_sub_cancel, ↓reduceIte, Bool.false_eq_true]
              rfl
            · rw [cr_us_ne _ _ (by omega)]; exact e5
            · rw [hmm, hm]
              simp (disch := omega) only [s_X9_addTurbine_65, ↓pm_bd, pm_lit, z70, pm_C, Nat.le_refl, e2, pm_cl, e4, pm_S, pm_gd, Nat.zero_add, ↓reduceIte]
              rw [← e8]
              simp (disch := omega) only [pm_S, z70]
              rw [pm_papa]
              rfl
            · rw [pm_pan _ _ (by omega), e6]; exact h7
          · have hat : s_X2_hasTurbineAt (S.1 0) (nI a) = some true := by
              simp only [s_X2_hasTurbineAt, pm_lit]
              exact qc_hasAt_s (S.1 0) nT k (nI a) hT g01 hk1 ((fr_t0 hf hk1).trans hk2) k 0 1200 rfl (by omega) (by omega) (fun i _ hi => by rw [fr_t0 hf (by omega)]; exact hk3 i hi)
            refine Or.inr ⟨"java/lang/IllegalStateException", 2, nI 0, cr_pt P0 0 7 (nI 2), ?_, by decide, ?_, R_f hR0 2⟩
            · simp (disch := omega) only [s_X8_addTurbine, s_X8_addTurbine_65, pm_lit, c1, c2, c3, pm_cl, g01, pm_C, e', hat, ↓reduceIte]
            · rw [hmm]
              have h9 := qm_add_s P0 nT k (nI a) (nI b) (nI r) hT z70 hk1 hk2 k 0 (1200 - k) rfl (by omega) (by omega) (fun i _ hi => hk3 i hi)
              rwa [show 1200 - k + k = 1200 by omega] at h9
      · refine Or.inr ⟨"java/lang/IllegalArgumentException", 1, nI 0, cr_pt P0 0 7 (nI 1), ?_, by decide, ?_, R_f hR0 1⟩
        · simp only [s_X8_addTurbine, s_X8_addTurbine_32, pm_lit, c1, c2, c3, pm_cl, ↓reduceIte, Bool.false_eq_true]
        · simp only [s_X9_addTurbine, s_X9_addTurbine_37, ↓pm_bd, pm_lit, ← hP0, m1, m2, m3, pm_cl, qm_fails, ↓reduceIte, Bool.false_eq_true]
    · refine Or.inr ⟨"java/lang/IllegalArgumentException", 1, nI 0, cr_pt P0 0 7 (nI 1), ?_, by decide, ?_, R_f hR0 1⟩
      · simp only [s_X8_addTurbine, s_X8_addTurbine_32, pm_lit, c1, c2, pm_cl, ↓reduceIte, Bool.false_eq_true]
      · simp only [s_X9_addTurbine, s_X9_addTurbine_37, ↓pm_bd, pm_lit, ← hP0, m1, m2, pm_cl, qm_fails, ↓reduceIte, Bool.false_eq_true]
  · refine Or.inr ⟨"java/lang/IllegalArgumentException", 1, nI 0, cr_pt P0 0 7 (nI 1), ?_, by decide, ?_, R_f hR0 1⟩
    · simp only [s_X8_addTurbine, s_X8_addTurbine_32, pm_lit, c1, pm_cl, ↓reduceIte, Bool.false_eq_true]
    · simp only [s_X9_addTurbine, s_X9_addTurbine_37, ↓pm_bd, pm_lit, ← hP0, m1, pm_cl, qm_fails, ↓reduceIte, Bool.false_eq_true]
