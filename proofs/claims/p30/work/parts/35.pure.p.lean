/-! ### settings, undo, the buffer -/
def lo9 (k : Nat) : Nat := ([5, 1, 1, 1, 0, 1, 0] : List Nat).getD k 0
def hi9 (k : Nat) : Nat := ([25, 20, 12, 200, 10, 100, 50] : List Nat).getD k 0
theorem q_lohi {k : Nat} (hk : k ≤ 6) : s_X9_lowest (nI k) = some (nI (lo9 k)) ∧ s_X9_highest (nI k) = some (nI (hi9 k)) ∧ cr_c1 k = nI (lo9 k) ∧ cr_c2 k = nI (hi9 k) ∧ lo9 k ≤ 200 ∧ hi9 k ≤ 200 := by
  have h : k = 0 ∨ k = 1 ∨ k = 2 ∨ k = 3 ∨ k = 4 ∨ k = 5 ∨ k = 6 := by omega
  rcases h with rfl | rfl | rfl | rfl | rfl | rfl | rfl <;> exact ⟨rfl, rfl, rfl, rfl, by decide, by decide⟩
theorem J_set {nT nB nL nP nW h g k v : Nat} {Z : Nat → Int32} (hJ : J nT nB nL nP nW h g Z) (hk : k ≤ 6) (h1 : lo9 k ≤ v) (h2 : v ≤ hi9 k) : J nT nB nL nP nW h g (upd Z (71 + k) (nI v)) := by
  obtain ⟨a1, a2, a3, a4, a5, a6, a7, a8, a9, a10⟩ := hJ
  have hn := a1.1
  have hT := hn.1
  have o : ∀ i, i ≠ 71 + k → upd Z (71 + k) (nI v) i = Z i := fun i hi => pm_un _ _ hi
  refine ⟨jC_c a1 (o _ (by omega)) (o _ (by omega)) (o _ (by omega)) (o _ (by omega)) (o _ (by omega)) (o _ (by omega)), ?_, jT_c a3 hT (fun i hi => o i (by omega)), jG_c a4 hT (fun i hi => o i (by omega)), jQ_c a5 hT (fun i hi => o i (by omega)), jP_c a6 hn.2.2.2.1 (fun i hi => o i (by omega)), jK_c a7 (fun i hi => o i (by omega)), jB_c a8 hn.2.1 (fun i hi => o i (by omega)), jW_c a9 hn.2.2.2.2 (fun i hi => o i (by omega)), jD_c a10 (fun i hi => o i (by omega))⟩
  refine ⟨?_, ?_⟩
  · by_cases e : k = 1
    · subst e
      have h1' : 1 ≤ v := h1
      have h2' : v ≤ 20 := h2
      exact ⟨v, h1', h2', pm_u _ _ _⟩
    · rw [o _ (by omega)]
      exact a2.1
  · by_cases e : k = 4
    · subst e
      have h2' : v ≤ 10 := h2
      exact ⟨v, h2', pm_u _ _ _⟩
    · rw [o _ (by omega)]
      exact a2.2
theorem q_set {S : cr_S} {P : cr_G} (hR : R S P) (p q : Int32) : AG S (s_X8_set S p q) (s_X9_set p q P) cOA := by
  obtain ⟨P0, hP0, h1, hpa, hR0, h7⟩ := q_start hR
  obtain ⟨⟨nT, nB, nL, nP, nW, h, hf, hJ, hh⟩, -⟩ := hR
  rw [← h1] at hf hJ hpa
  have hn := hJ.1.1
  rcases q_wi p (lo := 0) (hi := 6) (by omega) (by omega) with ⟨k, -, hk, rfl, c1, m1⟩ | ⟨c1, m1⟩
  · obtain ⟨b1, b2, b3, b4, b5, b6⟩ := q_lohi hk
    rcases q_wi q (lo := lo9 k) (hi := hi9 k) (by omega) (by omega) with ⟨v, hv1, hv2, rfl, c2, m2⟩ | ⟨c2, m2⟩
    · obtain ⟨S1, P1, e1, e2, e3, e4, e5, e6, e7, e8⟩ := q_sv hR0
      have l13 : lvp nT nB nL nP nW 13 k := by
        have h9 : k < 7 := by omega
        simp [lvp, h9]
      have f1 : fr nT nB nL nP nW (cr_pt (S.1 0) 13 k (nI v)) (upd (P0 1) (71 + k) (nI v)) := fr_pt (nI v) hn hf l13
      have hR2 := e7 _ _ (BLK_of f1 (J_set hJ hk hv1 hv2) hh)
      refine Or.inl ⟨P0 1 (71 + k), _, _, ?_, ?_, ?_, ?_, hR2⟩
      · have g3 : S1.1 0 13 k = P0 1 (71 + k) := by rw [e3]; exact fr_s hf (by omega)
        simp (disch := omega) only [s_X8_set, s_X8_requireSetting, cr_clx, pm_lit, c1, pm_cl, pm_S, pm_gd, b3, b4, c2, e1, ↓pm_bd, g3, cr_sp, e3, ↓reduceIte]
      · rw [cr_us_ne _ _ (by omega)]; exact e5
      · simp (disch := omega) only [s_X9_set, ↓pm_bd, pm_lit, ← hP0, m1, b1, b2, pm_cl, m2, e2, pm_gd, pm_S, e4, ↓reduceIte]
        rw [← e8]
        simp (disch := omega) only [pm_S, pm_papa]
      · rw [pm_pan _ _ (by omega), e6]; exact h7
    · refine Or.inr ⟨"java/lang/IllegalArgumentException", 2, nI 0, cr_pt P0 0 7 (nI 2), ?_, by decide, ?_, R_f hR0 2⟩
      · simp (disch := omega) only [s_X8_set, s_X8_requireSetting, cr_clx, pm_lit, c1, pm_cl, pm_S, pm_gd, b3, b4, c2, ↓reduceIte, Bool.false_eq_true]
      · simp only [s_X9_set, ↓pm_bd, pm_lit, ← hP0, m1, b1, b2, pm_cl, m2, qm_fails, ↓reduceIte, Bool.false_eq_true]
  · refine Or.inr ⟨"java/lang/IndexOutOfBoundsException", 1, nI 0, cr_pt P0 0 7 (nI 1), ?_, by decide, ?_, R_f hR0 1⟩
    · simp only [s_X8_set, s_X8_requireSetting, cr_clx, pm_lit, c1, pm_cl, ↓reduceIte, Bool.false_eq_true]
    · simp only [s_X9_set, ↓pm_bd, pm_lit, ← hP0, m1, pm_cl, qm_fails, ↓reduceIte, Bool.false_eq_true]
theorem q_undo {S : cr_S} {P : cr_G} (hR : R S P) : AG S (s_X8_undo S) (s_X9_undo P) cIS := by
  obtain ⟨P0, hP0, h1, hpa, hR0, h7⟩ := q_start hR
  have hR9 := hR0
  obtain ⟨-, ⟨o, c, s1, s2, s3, s4, s5, s6⟩, len, t1, t2, t3, t4⟩ := hR9
  cases c with
  | zero =>
    refine Or.inr ⟨"java/lang/IllegalStateException", 1, nI 0, cr_pt P0 0 7 (nI 1), ?_, by decide, ?_, R_f hR0 1⟩
    · simp only [s_X8_undo, pm_lit, s4, ↓reduceIte]
    · simp only [s_X9_undo, ↓pm_bd, pm_lit, ← hP0, s5, qm_fails, pm_cl, ↓reduceIte]
  | succ c =>
    have hc0 : ¬ c + 1 = 0 := by omega
    have hm : (o + c) % 6 < 6 := Nat.mod_lt _ (by omega)
    obtain ⟨G1, e1, hB1⟩ := BLK_copy (s6 c (by omega)) (S.1 0)
    have g8 : (cr_us S 8 (cr_pt (S.1 8) 0 4 (nI c))).1 8 = cr_pt (S.1 8) 0 4 (nI c) := cr_us_eq _ _ _
    have gk : (cr_us S 8 (cr_pt (S.1 8) 0 4 (nI c))).1 ((o + c) % 6 + 2) = S.1 ((o + c) % 6 + 2) := cr_us_ne _ _ (by omega)
    have g0 : (cr_us S 8 (cr_pt (S.1 8) 0 4 (nI c))).1 0 = S.1 0 := cr_us_ne _ _ (by omega)
    have q8 : ∀ X, (cr_us (cr_us S 8 (cr_pt (S.1 8) 0 4 (nI c))) 0 X).1 8 = cr_pt (S.1 8) 0 4 (nI c) := fun X => (cr_us_ne _ _ (by omega)).trans g8
    have hu := qm_undo_30 (cr_pt P0 0 5 (nI c)) c (by omega) (by rw [pm_pt, pm_u]) 184 0 1200 (P0 1) rfl (by omega) (by omega)
    have hp1 : cr_pa (cr_pt P0 0 5 (nI c)) 1 (P0 1) = cr_pt P0 0 5 (nI c) := by
      have := pm_self (cr_pt P0 0 5 (nI c)) 1
      rwa [pm_ptne _ _ _ (show (1 : Nat) ≠ 0 by omega)] at this
    rw [hp1] at hu
    refine Or.inl ⟨nI c, cr_us (cr_us S 8 (cr_pt (S.1 8) 0 4 (nI c))) 0 G1, cr_pa (cr_pt P0 0 5 (nI c)) 1 (c184 (fun q => cr_pt P0 0 5 (nI c) 3 (184 * c + q)) (P0 1) 0), ?_, ?_, ?_, ?_, ?_⟩
    rotate_left 2
    · simp (disch := omega) only [s_X9_undo, ↓pm_bd, pm_lit, ← hP0, s5, pm_C, hc0, pk_sub, Nat.add_sub_cancel, ↓reduceIte]
      exact hu
    · rw [pm_pan _ _ (by omega), pm_pt, pm_un _ _ (by omega)]; exact h7
    · refine ⟨?_, ⟨o, c, s1, by omega, ?_, ?_, ?_, fun i hi => ?_⟩, len, t1, ?_, ?_, fun k hk => ?_⟩
      · rw [cr_us_eq, pm_pa]
        refine BLK_c hB1 (fun q hq => ?_)
        rw [c184_in hq, pm_ptne _ _ _ (by omega)]
      · rw [q8, pm_pt, pm_un _ _ (by omega)]; exact s3
      · rw [q8, pm_pt, pm_u]
      · rw [pm_pan _ _ (by omega), pm_pt, pm_u]
      · have hmi : (o + i) % 6 < 6 := Nat.mod_lt _ (by omega)
        rw [cr_us_ne _ _ (by omega), cr_us_ne _ _ (by omega), pm_pan _ _ (by omega), pm_ptne _ _ _ (by omega)]
        exact s6 i (by omega)
      · rw [q8, pm_ptne _ _ _ (by omega)]; exact t2
      · rw [pm_pan _ _ (by omega), pm_pt, pm_un _ _ (by omega)]; exact t3
      · rw [q8, pm_ptne _ _ _ (by omega), pm_pan _ _ (by omega), pm_ptne _ _ _ (by omega)]; exact t4 k hk
    · simp (disch := omega) only [s_X8_undo, ↓pm_bd, pm_lit, cr_sp, s4, pm_C, hc0, pk_sub, Nat.add_sub_cancel, g8, pm_pt, pm_u, pm_un, s3, pm_add, pk_rem, pm_in, nI_clamp, pm_gd, gk, g0, e1, pm_cl, q8, ↓reduceIte]
    · rw [cr_us_ne _ _ (by omega), cr_us_ne _ _ (by omega)]
theorem q_clear {S : cr_S} {P : cr_G} (hR : R S P) : AGn S (s_X8_clearBuffer S) (s_X9_clearBuffer P) := by
  obtain ⟨P0, hP0, h1, hpa, hR0, h7⟩ := q_start hR
  obtain ⟨r1, r2, len, t1, t2, t3, t4⟩ := hR0
  refine ⟨nI len, cr_us S 8 (cr_pt (S.1 8) 2 1 (nI 0)), cr_pt P0 0 6 (nI 0), ?_, cr_us_ne _ _ (by omega), ?_, ?_⟩
  · simp only [s_X8_clearBuffer, ↓pm_bd, pm_lit, t2, cr_sp]
  · simp only [s_X9_clearBuffer, ↓pm_bd, pm_lit, ← hP0, t3]
  · obtain ⟨o, c, s1, s2, s3, s4, s5, s6⟩ := r2
    refine ⟨?_, ⟨o, c, s1, s2, ?_, ?_, ?_, fun i hi => ?_⟩, 0, by omega, ?_, ?_, fun k hk => absurd hk (Nat.not_lt_zero k)⟩
    · rw [cr_us_ne _ _ (by omega), pm_ptne _ _ _ (by omega)]; exact r1
    · rw [cr_us_eq, pm_ptne _ _ _ (by omega)]; exact s3
    · rw [cr_us_eq, pm_ptne _ _ _ (by omega)]; exact s4
    · rw [pm_pt, pm_un _ _ (by omega)]; exact s5
    · have hmi : (o + i) % 6 < 6 := Nat.mod_lt _ (by omega)
      rw [cr_us_ne _ _ (by omega), pm_ptne _ _ _ (by omega)]
      exact s6 i hi
    · rw [cr_us_eq, pm_pt, pm_u]
    · rw [pm_pt, pm_u]
theorem q_append {S : cr_S} {P : cr_G} (hR : R S P) (p : Int32) : AG S (s_X8_append S p) (s_X9_append p P) cAS := by
  obtain ⟨P0, hP0, h1, hpa, hR0, h7⟩ := q_start hR
  have hR9 := hR0
  obtain ⟨r1, r2, len, t1, t2, t3, t4⟩ := hR9
  rcases q_wi p (lo := 33) (hi := 126) (by omega) (by omega) with ⟨n, hn1, hn2, rfl, c1, m1⟩ | ⟨c1, m1⟩
  · by_cases e : len = 60
    · have e' : ¬ len < 60 := by omega
      refine Or.inr ⟨"java/lang/IllegalStateException", 2, nI 0, cr_pt P0 0 7 (nI 2), ?_, by decide, ?_, R_f hR0 2⟩
      · simp (disch := omega) only [s_X8_append, s_X6_isFull, pm_lit, c1, pm_cl, t2, pm_C, e', ↓reduceIte]
      · simp (disch := omega) only [s_X9_append, ↓pm_bd, pm_lit, ← hP0, m1, pm_cl, t3, pm_C, e, qm_fails, ↓reduceIte]
    · have e' : len < 60 := by omega
      refine Or.inl ⟨nI (len + 1), cr_us S 8 (cr_pt (cr_pt (S.1 8) 3 len (nI n)) 2 1 (nI (len + 1))), cr_pt (cr_pt P0 4 len (nI n)) 0 6 (nI (len + 1)), ?_, cr_us_ne _ _ (by omega), ?_, ?_, ?_⟩
      · simp (disch := omega) only [s_X8_append, s_X6_isFull, s_X6_add, ↓pm_bd, pm_lit, c1, pm_cl, t2, pm_C, e', pm_in, pm_gd, nI_clamp, pm_ptne, pm_add, cr_us_eq, pm_pt, pm_u, ↓reduceIte, Bool.false_eq_true]
      · simp only [s_X9_append, ↓pm_bd, pm_lit, ← hP0]
        simp (disch := omega) only [m1, pm_cl, t3, pm_C, e, pm_in, pm_gd, nI_clamp, pm_ptne, pm_add, pm_pt, pm_u, ↓reduceIte]
      · rw [pm_pt, pm_un _ _ (by omega), pm_ptne _ _ _ (by omega)]; exact h7
      · obtain ⟨o, c, s1, s2, s3, s4, s5, s6⟩ := r2
        refine ⟨?_, ⟨o, c, s1, s2, ?_, ?_, ?_, fun i hi => ?_⟩, len + 1, by omega, ?_, ?_, fun k hk => ?_⟩
        · rw [cr_us_ne _ _ (by omega), pm_ptne _ _ _ (by omega), pm_ptne _ _ _ (by omega)]; exact r1
        · rw [cr_us_eq, pm_ptne _ _ _ (by omega), pm_ptne _ _ _ (by omega)]; exact s3
        · rw [cr_us_eq, pm_ptne _ _ _ (by omega), pm_ptne _ _ _ (by omega)]; exact s4
        · rw [pm_pt, pm_un _ _ (by omega), pm_ptne _ _ _ (by omega)]; exact s5
        · have hmi : (o + i) % 6 < 6 := Nat.mod_lt _ (by omega)
          rw [cr_us_ne _ _ (by omega), pm_ptne _ _ _ (by omega), pm_ptne _ _ _ (by omega)]
          exact s6 i hi
        · rw [cr_us_eq, pm_pt, pm_u]
        · rw [pm_pt, pm_u]
        · rw [cr_us_eq, pm_ptne _ _ _ (show (3 : Nat) ≠ 2 by omega), pm_pt, pm_ptne _ _ _ (show (4 : Nat) ≠ 0 by omega), pm_pt]
          by_cases ek : k = len
          · subst ek
            rw [pm_u, pm_u]
            exact ⟨rfl, n, hn1, hn2, rfl⟩
          · rw [pm_un _ _ ek, pm_un _ _ ek]
            exact t4 k (by omega)
  · refine Or.inr ⟨"java/lang/IllegalArgumentException", 1, nI 0, cr_pt P0 0 7 (nI 1), ?_, by decide, ?_, R_f hR0 1⟩
    · simp only [s_X8_append, pm_lit, c1, pm_cl, ↓reduceIte, Bool.false_eq_true]
    · simp only [s_X9_append, ↓pm_bd, pm_lit, ← hP0, m1, pm_cl, qm_fails, ↓reduceIte, Bool.false_eq_true]
