/-! ### orders, plans -/
theorem fr_ext {nT nB nL nP nW mT mB mL mP mW : Nat} {G G' : cr_G} {Z Z' : Nat → Int32} (rows : Nat → Prop) (hn : okn mT mB mL mP mW) (hf : fr nT nB nL nP nW G Z) (h1 : ∀ j i, lvp mT mB mL mP mW j i → rows j → G' j i = Z' (mp j i)) (h2 : ∀ j i, lvp mT mB mL mP mW j i → ¬ rows j → lvp nT nB nL nP nW j i ∧ G' j = G j) (h3 : ∀ k, ¬ rows (rowOf k) → Z' k = Z k) : fr mT mB mL mP mW G' Z' := by
  intro j i hl
  by_cases e : rows j
  · exact h1 j i hl e
  · obtain ⟨a, b⟩ := h2 j i hl e
    rw [b, hf j i a, h3 _ (by rw [rowOf_mp hn hl]; exact e)]
theorem lvp_L {nT nB nL nP nW j i : Nat} (hl : lvp nT nB (nL + 1) nP nW j i) (h6 : j ≠ 6) (h7 : j ≠ 7) : lvp nT nB nL nP nW j i := by
  rcases hl with h | h | h | h | h | h | h | h | h | h | h | h | h | h | h
  · exact Or.inl h
  · exact Or.inr (Or.inl h)
  · exact Or.inr (Or.inr (Or.inl h))
  · exact Or.inr (Or.inr (Or.inr (Or.inl h)))
  · exact Or.inr (Or.inr (Or.inr (Or.inr (Or.inl h))))
  · exact absurd h.1 h6
  · exact absurd h.1 h7
  · exact Or.inr (Or.inr (Or.inr (Or.inr (Or.inr (Or.inr (Or.inr (Or.inl h)))))))
  · exact Or.inr (Or.inr (Or.inr (Or.inr (Or.inr (Or.inr (Or.inr (Or.inr (Or.inl h))))))))
  · exact Or.inr (Or.inr (Or.inr (Or.inr (Or.inr (Or.inr (Or.inr (Or.inr (Or.inr (Or.inl h)))))))))
  · exact Or.inr (Or.inr (Or.inr (Or.inr (Or.inr (Or.inr (Or.inr (Or.inr (Or.inr (Or.inr (Or.inl h))))))))))
  · exact Or.inr (Or.inr (Or.inr (Or.inr (Or.inr (Or.inr (Or.inr (Or.inr (Or.inr (Or.inr (Or.inr (Or.inl h)))))))))))
  · exact Or.inr (Or.inr (Or.inr (Or.inr (Or.inr (Or.inr (Or.inr (Or.inr (Or.inr (Or.inr (Or.inr (Or.inr (Or.inl h))))))))))))
  · exact Or.inr (Or.inr (Or.inr (Or.inr (Or.inr (Or.inr (Or.inr (Or.inr (Or.inr (Or.inr (Or.inr (Or.inr (Or.inr (Or.inl h)))))))))))))
  · exact Or.inr (Or.inr (Or.inr (Or.inr (Or.inr (Or.inr (Or.inr (Or.inr (Or.inr (Or.inr (Or.inr (Or.inr (Or.inr (Or.inr (h))))))))))))))
theorem lvp_T {nT nB nL nP nW j i : Nat} (hl : lvp (nT + 1) nB nL nP nW j i) (h6 : j ≠ nT + 15) : lvp nT nB nL nP nW j i := by
  rcases hl with h | h | h | h | h | h | h | h | h | h | h | h | h | h | h
  · exact Or.inl h
  · exact Or.inr (Or.inl h)
  · exact Or.inr (Or.inr (Or.inl h))
  · exact Or.inr (Or.inr (Or.inr (Or.inl h)))
  · exact Or.inr (Or.inr (Or.inr (Or.inr (Or.inl h))))
  · exact Or.inr (Or.inr (Or.inr (Or.inr (Or.inr (Or.inl h)))))
  · exact Or.inr (Or.inr (Or.inr (Or.inr (Or.inr (Or.inr (Or.inl h))))))
  · exact Or.inr (Or.inr (Or.inr (Or.inr (Or.inr (Or.inr (Or.inr (Or.inl h)))))))
  · exact Or.inr (Or.inr (Or.inr (Or.inr (Or.inr (Or.inr (Or.inr (Or.inr (Or.inl h))))))))
  · exact Or.inr (Or.inr (Or.inr (Or.inr (Or.inr (Or.inr (Or.inr (Or.inr (Or.inr (Or.inl h)))))))))
  · exact Or.inr (Or.inr (Or.inr (Or.inr (Or.inr (Or.inr (Or.inr (Or.inr (Or.inr (Or.inr (Or.inl h))))))))))
  · exact Or.inr (Or.inr (Or.inr (Or.inr (Or.inr (Or.inr (Or.inr (Or.inr (Or.inr (Or.inr (Or.inr (Or.inl h)))))))))))
  · exact Or.inr (Or.inr (Or.inr (Or.inr (Or.inr (Or.inr (Or.inr (Or.inr (Or.inr (Or.inr (Or.inr (Or.inr (Or.inl h))))))))))))
  · exact Or.inr (Or.inr (Or.inr (Or.inr (Or.inr (Or.inr (Or.inr (Or.inr (Or.inr (Or.inr (Or.inr (Or.inr (Or.inr (Or.inl h)))))))))))))
  · exact Or.inr (Or.inr (Or.inr (Or.inr (Or.inr (Or.inr (Or.inr (Or.inr (Or.inr (Or.inr (Or.inr (Or.inr (Or.inr (Or.inr (⟨h.1, by omega, h.2.2⟩))))))))))))))
theorem pigeon : ∀ (m n : Nat) (f : Nat → Nat), (∀ k, k < n → f k < m) → (∀ k k', k < n → k' < n → f k = f k' → k = k') → n ≤ m
  | m, 0, _, _, _ => Nat.zero_le m
  | 0, n + 1, f, h, _ => absurd (h 0 (by omega)) (Nat.not_lt_zero _)
  | m + 1, n + 1, f, h, hi => by
    have key := pigeon m n (fun k => if f k = m then f n else f k) (fun k hk => by
      show (if f k = m then f n else f k) < m
      have h1 := h k (by omega)
      have h2 := h n (by omega)
      split
      · have : f n ≠ m := fun e => by
          have := hi k n (by omega) (by omega) (by omega)
          omega
        omega
      · omega) (fun k k' hk hk' e => by
      have e : (if f k = m then f n else f k) = (if f k' = m then f n else f k') := e
      split at e <;> split at e
      · exact hi k k' (by omega) (by omega) (by omega)
      · have := hi n k' (by omega) (by omega) e
        omega
      · have := hi k n (by omega) (by omega) e
        omega
      · exact hi k k' (by omega) (by omega) e)
    omega
theorem plan_room {nT nP t : Nat} {Z : Nat → Int32} (hT : nT ≤ 10) (h : jP nT nP Z) (ht : t < nT) (hno : ∀ i, i < nP → Z (146 + i) ≠ nI t) : nP < 10 := by
  have hf : ∀ k, k < nP → ∃ u, u < nT ∧ Z (146 + k) = nI u ∧ (Z (146 + k)).toNatClampNeg = u := fun k hk => by
    obtain ⟨u, h1, h2⟩ := h.1 k hk
    exact ⟨u, h1, h2, by rw [h2]; exact nI_clamp (by omega)⟩
  have := pigeon nT (nP + 1) (fun k => if k = nP then t else (Z (146 + k)).toNatClampNeg) (fun k hk => by
    show (if k = nP then t else (Z (146 + k)).toNatClampNeg) < nT
    split
    · exact ht
    · obtain ⟨u, h1, -, h3⟩ := hf k (by omega)
      omega) (fun k k' hk hk' e => by
    have e : (if k = nP then t else (Z (146 + k)).toNatClampNeg) = (if k' = nP then t else (Z (146 + k')).toNatClampNeg) := e
    split at e <;> split at e
    · omega
    · obtain ⟨u, h1, h2, h3⟩ := hf k' (by omega)
      exact absurd (h2.trans (by rw [e, h3])) (hno k' (by omega))
    · obtain ⟨u, h1, h2, h3⟩ := hf k (by omega)
      exact absurd (h2.trans (by rw [← e, h3])) (hno k (by omega))
    · obtain ⟨u, h1, h2, h3⟩ := hf k (by omega)
      obtain ⟨u', h1', h2', h3'⟩ := hf k' (by omega)
      exact h.2 k k' (by omega) (by omega) (by rw [h2, h2', ← h3, ← h3', e]))
  omega
theorem q_orderBlade {S : cr_S} {P : cr_G} (hR : R S P) (p : Int32) : AG S (s_X8_orderBlade S p) (s_X9_orderBlade p P) cOS := by
  obtain ⟨P0, hP0, h1, hpa, hR0, h7⟩ := q_start hR
  obtain ⟨⟨nT, nB, nL, nP, nW, h, hf, hJ, hh⟩, -⟩ := hR
  rw [← h1] at hf hJ hpa
  have hn := hJ.1.1
  have hT := hn.1
  have hL := hn.2.2.1
  have z156 := hJ.1.2.2.2.1
  have g5 : S.1 0 5 2 = nI nL := (fr_l hf).trans z156
  rcases q_tb (P := P0) p hn.1 ((fr_n hf).trans hJ.1.2.1) hJ.1.2.1 with ⟨t, ht, rfl, c1, m1⟩ | ⟨c1, m1⟩
  · by_cases e : nL = 10
    · have e' : ¬ nL < 10 := by omega
      refine Or.inr ⟨"java/lang/IllegalStateException", 2, nI 0, cr_pt P0 0 7 (nI 2), ?_, by decide, ?_, R_f hR0 2⟩
      · simp (disch := omega) only [s_X8_orderBlade, s_X8_requireTurbine, s_X3_isFull, cr_clx, pm_lit, c1, pm_cl, g5, pm_C, e', ↓reduceIte]
      · simp only [s_X9_orderBlade, ↓pm_bd, pm_lit, ← hP0]
        simp (disch := omega) only [m1, pm_cl, z156, pm_C, e, qm_fails, ↓reduceIte]
    · have e' : nL < 10 := by omega
      obtain ⟨S1, P1, e1, e2, e3, e4, e5, e6, e7, e8⟩ := q_sv hR0
      have f2 : fr nT nB (nL + 1) nP nW (cr_pt (cr_pt (cr_pt (S.1 0) 6 nL (nI t)) 7 nL (P0 1 (10 + t) / nI 10)) 5 2 (nI (nL + 1))) (upd (upd (upd (P0 1) (157 + nL) (nI t)) (167 + nL) (P0 1 (10 + t) / nI 10)) 156 (nI (nL + 1))) := by
        refine fr_ext (fun j => j = 5 ∨ j = 6 ∨ j = 7) (by unfold okn at hn ⊢; omega) hf (fun j i hl hr => ?_) (fun j i hl hr => ⟨lvp_L hl (by omega) (by omega), ?_⟩) (fun k hk => ?_)
        · rcases hr with rfl | rfl | rfl
          · have hi : i = 2 := by simpa [lvp] using hl
            subst hi
            show _ = _
            rw [pm_pt, pm_u]
            exact (pm_u _ _ _).symm
          · have hi : i < nL + 1 := by simpa [lvp] using hl
            show _ = upd (upd (upd (P0 1) (157 + nL) (nI t)) (167 + nL) (P0 1 (10 + t) / nI 10)) 156 (nI (nL + 1)) (157 + i)
            by_cases ei : i = nL
            · subst ei
              simp (disch := omega) only [pm_ptne, pm_pt, pm_u, pm_un]
            · simp (disch := omega) only [pm_ptne, pm_pt, pm_un]
              exact fr_lw hf (by omega)
          · have hi : i < nL + 1 := by simpa [lvp] using hl
            show _ = upd (upd (upd (P0 1) (157 + nL) (nI t)) (167 + nL) (P0 1 (10 + t) / nI 10)) 156 (nI (nL + 1)) (167 + i)
            by_cases ei : i = nL
            · subst ei
              simp (disch := omega) only [pm_ptne, pm_pt, pm_u, pm_un]
            · simp (disch := omega) only [pm_ptne, pm_pt, pm_un]
              exact fr_lg hf (by omega)
        · rw [pm_ptne _ _ _ (by omega), pm_ptne _ _ _ (by omega), pm_ptne _ _ _ (by omega)]
        · have r5 := @rw_5 k
          have r6 := @rw_6 k
          have r7 := @rw_7 k
          have k5 : ¬ (156 ≤ k ∧ k < 157) := fun hh => hk (Or.inl (r5 hh))
          have k6 : ¬ (157 ≤ k ∧ k < 167) := fun hh => hk (Or.inr (Or.inl (r6 hh)))
          have k7 : ¬ (167 ≤ k ∧ k < 177) := fun hh => hk (Or.inr (Or.inr (r7 hh)))
          rw [pm_un _ _ (by omega), pm_un _ _ (by omega), pm_un _ _ (by omega)]
      have o : ∀ i, (i < 156 ∨ 177 ≤ i) → upd (upd (upd (P0 1) (157 + nL) (nI t)) (167 + nL) (P0 1 (10 + t) / nI 10)) 156 (nI (nL + 1)) i = P0 1 i := fun i hi => by rw [pm_un _ _ (by omega), pm_un _ _ (by omega), pm_un _ _ (by omega)]
      have J2 : J nT nB (nL + 1) nP nW h h (upd (upd (upd (P0 1) (157 + nL) (nI t)) (167 + nL) (P0 1 (10 + t) / nI 10)) 156 (nI (nL + 1))) := by
        obtain ⟨⟨b0, b1, b2, b3, b4, b5, b6⟩, a2, a3, a4, a5, a6, a7, a8, a9, a10⟩ := hJ
        exact ⟨⟨by unfold okn at hn ⊢; omega, (o _ (by omega)).trans b1, (o _ (by omega)).trans b2, pm_u _ _ _, (o _ (by omega)).trans b4, (o _ (by omega)).trans b5, (o _ (by omega)).trans b6⟩, jS_c a2 (o _ (by omega)) (o _ (by omega)), jT_c a3 hT (fun k hk => o k (by omega)), jG_c a4 hT (fun k hk => o k (by omega)), jQ_c a5 hT (fun k hk => o k (by omega)), jP_c a6 hn.2.2.2.1 (fun k hk => o k (by omega)), jK_c a7 (fun k hk => o k (by omega)), jB_c a8 hn.2.1 (fun k hk => o k (by omega)), jW_c a9 hn.2.2.2.2 (fun k hk => o k (by omega)), jD_c a10 (fun k hk => o k (by omega))⟩
      have hR2 := e7 _ _ (BLK_of f2 J2 hh)
      refine Or.inl ⟨nI (nL + 1), _, _, ?_, ?_, ?_, ?_, hR2⟩
      · have g1 : S.1 0 (t + 15) 1 = P0 1 (10 + t) := fr_t1 hf ht
        simp (disch := omega) only [s_X8_orderBlade, s_X8_requireTurbine, s_X3_isFull, s_X3_take, s_X5_bladeWeight, cr_clx, ↓pm_bd, pm_lit, c1, pm_cl, g5, pm_C, e', e1, pm_S, pm_gd, e3, g1, pm_ptne, pm_pt, cr_us_eq, ↓reduceIte, Bool.false_eq_true]
      · rw [cr_us_ne _ _ (by omega)]; exact e5
      · simp only [s_X9_orderBlade, ↓pm_bd, pm_lit, ← hP0]
        simp (disch := omega) only [m1, pm_cl, z156, pm_C, e, e2, e4, ↓reduceIte]
        rw [← e8]
        simp (disch := omega) only [z156, pm_S, pm_gd, pm_papa]
      · rw [pm_pan _ _ (by omega), e6]; exact h7
  · refine Or.inr ⟨"java/lang/IndexOutOfBoundsException", 1, nI 0, cr_pt P0 0 7 (nI 1), ?_, by decide, ?_, R_f hR0 1⟩
    · simp only [s_X8_orderBlade, s_X8_requireTurbine, cr_clx, pm_lit, c1, pm_cl, ↓reduceIte, Bool.false_eq_true]
    · simp only [s_X9_orderBlade, ↓pm_bd, pm_lit, ← hP0, m1, pm_cl, qm_fails, ↓reduceIte, Bool.false_eq_true]
/-- the model's insertion -/
theorem qm_plan_86 (M : cr_G) (c p : Nat) (x : Int32) (hc : c < 10) (hp : p ≤ c) : ∀ (d k n : Nat) (Z : Nat → Int32), k - p = d → d < n → p ≤ k → k ≤ c → Z 145 = nI c → s_X9_plan_86 n x (nI p) (nI k) (cr_pa M 1 Z) = some (nI (c + 1), cr_pa M 1 (upd (upd (sr Z 146 p k) (146 + p) x) 145 (nI (c + 1)))) := by
  intro d
  induction d with
  | zero =>
    intro k n Z hd hn hk hkc h5
    obtain ⟨n, rfl⟩ : ∃ m, n = m + 1 := ⟨n - 1, by omega⟩
    obtain rfl : k = p := by omega
    simp (disch := omega) only [s_X9_plan_86, ↓pm_bd, pm_gd, pm_lit, pm_S, h5, pm_C, Nat.le_refl, sr_id, ↓reduceIte]
  | succ d ih =>
    intro k n Z hd hn hk hkc h5
    obtain ⟨n, rfl⟩ : ∃ m, n = m + 1 := ⟨n - 1, by omega⟩
    have hck : ¬ k ≤ p := by omega
    simp (disch := omega) only [s_X9_plan_86, ↓pm_bd, pm_gd, ↓pm_m1, pm_lit, pm_S, pm_C, hck, pm_am1, ↓reduceIte]
    rw [ih (k - 1) n _ (by omega) (by omega) (by omega) (by omega) (by rw [pm_un _ _ (by omega)]; exact h5), sr_step (by omega)]
theorem q_plan {S : cr_S} {P : cr_G} (hR : R S P) (p q : Int32) : AG S (s_X8_plan S p q) (s_X9_plan p q P) cIO := by
  obtain ⟨P0, hP0, h1, hpa, hR0, h7⟩ := q_start hR
  obtain ⟨⟨nT, nB, nL, nP, nW, h, hf, hJ, hh⟩, -⟩ := hR
  rw [← h1] at hf hJ hpa
  have hn := hJ.1.1
  have hPm := hn.2.2.2.1
  have z145 := hJ.1.2.2.2.2.1
  have g8 : S.1 0 8 1 = nI nP := (fr_p hf).trans z145
  rcases q_tb (P := P0) p hn.1 ((fr_n hf).trans hJ.1.2.1) hJ.1.2.1 with ⟨t, ht, rfl, c1, m1⟩ | ⟨c1, m1⟩
  · have fin : ∀ (others : Nat) (had : Int32), s_X4_countWithout (S.1 0) (nI t) = some (nI others) → s_X9_placeOf P0 (nI t) = some had → (had = mI ∧ others = nP ∨ ¬ had = mI ∧ others = nP - 1 ∧ 0 < nP) → (∀ b : Nat, b ≤ others → q = nI b → ∃ (v : Int32) (G' : cr_G) (Z' : Nat → Int32), s_X4_moveTo (nI t) (nI b) (S.1 0) = some G' ∧ G' 8 1 = v ∧ fr nT nB nL (others + 1) nW G' Z' ∧ J nT nB nL (others + 1) nW h h Z' ∧ ∀ M : cr_G, (if had = mI then s_X9_plan_86 1200 (nI t) (nI b) (nI nP) (cr_pa M 1 (P0 1)) else cr_cl (s_X9_takeOff had (cr_pa M 1 (P0 1))) (fun r => s_X9_plan_86 1200 (nI t) (nI b) (r 1 145) r)) = some (v, cr_pa M 1 Z')) → AG S (s_X8_plan S (nI t) q) (s_X9_plan (nI t) q P) cIO := by
      intro others had hc hpl ho hgo
      have hol : others ≤ 10 := by omega
      have hm : s_X9_plan (nI t) q P = cr_cl (s_X9_within q (nI 0) (nI others)) (fun r50_6 => (if r50_6 = true then (cr_cl (s_X9_save P0) (fun r63_7 => (if had = mI then (s_X9_plan_86 1200 (nI t) q (r63_7 1 145) r63_7) else (cr_cl (s_X9_takeOff had r63_7) (fun r73_9 => (s_X9_plan_86 1200 (nI t) q (r73_9 1 145) r73_9)))))) else some (nI 0, cr_pt P0 0 7 (nI 1)))) := by
        simp only [s_X9_plan, ↓pm_bd, ↓pm_m1, pm_lit, ← hP0]
        rcases ho with ⟨ho1, ho2⟩ | ⟨ho1, ho2, ho3⟩
        · subst ho2
          simp (disch := omega) only [m1, pm_cl, hpl, ho1, s_X9_plan_43, ↓pm_bd, ↓pm_m1, pm_lit, z145, pk_sub, Nat.sub_zero, qm_fails, ↓reduceIte]
        · subst ho2
          simp (disch := omega) only [m1, pm_cl, hpl, ho1, s_X9_plan_43, ↓pm_bd, ↓pm_m1, pm_lit, z145, pk_sub, qm_fails, ↓reduceIte]
      rcases q_wi q (lo := 0) (hi := others) (by omega) (by omega) with ⟨b, -, hb, rfl, c2, m2⟩ | ⟨c2, m2⟩
      · obtain ⟨S1, P1, e1, e2, e3, e4, e5, e6, e7, e8⟩ := q_sv hR0
        obtain ⟨v, G', Z', d1, d2, d3, d4, d5⟩ := hgo b hb rfl
        have hR2 := e7 _ _ (BLK_of d3 d4 hh)
        refine Or.inl ⟨v, _, _, ?_, ?_, ?_, ?_, hR2⟩
        · simp only [s_X8_plan, s_X8_requireTurbine, cr_clx, ↓pm_bd, pm_lit, c1, pm_cl, hc, c2, e1, e3, d1, cr_us_eq, d2, ↓reduceIte]
        · rw [cr_us_ne _ _ (by omega)]; exact e5
        · have d6 := d5 P1
          rw [e8] at d6
          rw [hm]
          simp only [m2, pm_cl, e2, e4, z145, ↓reduceIte]
          exact d6
        · rw [pm_pan _ _ (by omega), e6]; exact h7
      · refine Or.inr ⟨"java/lang/IndexOutOfBoundsException", 1, nI 0, cr_pt P0 0 7 (nI 1), ?_, by decide, ?_, R_f hR0 1⟩
        · simp only [s_X8_plan, s_X8_requireTurbine, cr_clx, pm_lit, c1, pm_cl, hc, c2, ↓reduceIte, Bool.false_eq_true]
        · rw [hm]
          simp only [m2, pm_cl, ↓reduceIte, Bool.false_eq_true]
    rcases q_placeOf (M := P0) hf hPm z145 hJ.2.2.2.2.2.1 (nI t) with ⟨pc, pm, hno⟩ | ⟨k, hk, hz, pc, pm⟩
    · rw [hpa] at pm
      have hroom := plan_room hn.1 hJ.2.2.2.2.2.1 ht hno
      refine fin nP mI ?_ pm (Or.inl ⟨rfl, rfl⟩) (fun b hb _ => ?_)
      · simp only [s_X4_countWithout, ↓pm_m1, pc, pm_cl, g8, ↓reduceIte]
      · have n1 : ¬ b < 0 := by omega
        have n2 : ¬ nP < b := by omega
        have hmv := qc_moveTo_36 (S.1 0) nP b (nI t) hroom g8 hb (nP - b) nP 1200 (S.1 0 9) rfl (by omega) hb (Nat.le_refl _)
        rw [pm_self] at hmv
        refine ⟨nI (nP + 1), _, _, ?_, by rw [pm_pt, pm_u], fr_ins hn hf hb hroom, J_ins hJ hb hroom ht hno, fun M => ?_⟩
        · simp (disch := omega) only [s_X4_moveTo, pc, pm_cl, qc_removeAt_m, ↓pm_bd, pm_lit, g8, pm_C, n1, n2, hroom, ↓reduceIte]
          exact hmv
        · rw [if_pos rfl, qm_plan_86 M nP b (nI t) hroom hb (nP - b) nP 1200 _ rfl (by omega) hb (Nat.le_refl _) z145]
          rfl
    · rw [hpa] at pm
      have hkm : ¬ nI k = mI := by rw [pm_ne (by omega)]; exact fun h => h
      refine fin (nP - 1) (nI k) ?_ pm (Or.inr ⟨hkm, rfl, by omega⟩) (fun b hb _ => ?_)
      · simp (disch := omega) only [s_X4_countWithout, ↓pm_m1, pm_lit, pc, pm_cl, g8, hkm, pk_sub, ↓reduceIte]
      · obtain ⟨G', d1, d2, d3⟩ := q_move (q := k) (p := b) hf hJ hk (by omega)
        rw [hz] at d1 d2 d3
        have h10 := d3.1.2.2.2.2.1
        rw [show nP - 1 + 1 = nP by omega]
        refine ⟨nI nP, G', _, d1, (fr_p d2).trans h10, d2, d3, fun M => ?_⟩
        have htk : s_X9_takeOff (nI k) (cr_pa M 1 (P0 1)) = some (cr_pa M 1 (tk (P0 1) k nP)) := qm_takeOff (M := M) (p := k) hPm (by omega) (by omega) z145
        rw [if_neg hkm, htk]
        simp only [pm_cl, pm_pa, tk_145]
        rw [qm_plan_86 M (nP - 1) b (nI t) (by omega) hb (nP - 1 - b) (nP - 1) 1200 _ rfl (by omega) hb (Nat.le_refl _) tk_145, show nP - 1 + 1 = nP by omega]
        show _ = some (nI nP, cr_pa M 1 (upd (upd (sr (tk (P0 1) k nP) 146 b (nP - 1)) (146 + b) (nI t)) 145 (nI (nP - 1 + 1))))
        rw [show nP - 1 + 1 = nP by omega]
  · refine Or.inr ⟨"java/lang/IndexOutOfBoundsException", 1, nI 0, cr_pt P0 0 7 (nI 1), ?_, by decide, ?_, R_f hR0 1⟩
    · simp only [s_X8_plan, s_X8_requireTurbine, cr_clx, pm_lit, c1, pm_cl, ↓reduceIte, Bool.false_eq_true]
    · simp only [s_X9_plan, ↓pm_bd, pm_lit, ← hP0, m1, pm_cl, qm_fails, ↓reduceIte, Bool.false_eq_true]
