theorem w_736 {xs : Nat → Int32} {L j : Nat} {S : cr_S} (hj : 4 * j + 4 ≤ L) (hL : L ≤ 2048) (hR : R S (S.1 9)) (k23 : Int32 → cr_S → Option Unit) : ∃ S', s_L_law_736 xs L k23 (nI (4 * j)) S = k23 (nI (4 * j + 4)) S' ∧ R S' (S'.1 9) := by
  obtain ⟨v, S1, P1, e1, e2, e3, e5⟩ := q_clear hR
  refine ⟨cr_us S1 9 P1, ?_, by rw [cr_us_eq]; exact R_us e5⟩
  simp (disch := omega) only [s_L_law_736, ↓pm_bd, pm_lit, pm_S, e1, pm_cl, e2, e3, ↓reduceIte]
theorem w_1358 {xs : Nat → Int32} {L j : Nat} {S : cr_S} (hj : 4 * j + 4 ≤ L) (hL : L ≤ 2048) (hR : R S (S.1 9)) (k23 : Int32 → cr_S → Option Unit) : ∃ S', s_L_law_1358 xs L k23 (nI (4 * j)) S = k23 (nI (4 * j + 4)) S' ∧ R S' (S'.1 9) := by
  obtain ⟨v, S1, P1, e1, e2, e3, e5⟩ := q_bestop hR
  refine ⟨cr_us S1 9 P1, ?_, by rw [cr_us_eq]; exact R_us e5⟩
  simp (disch := omega) only [s_L_law_1358, ↓pm_bd, pm_lit, pm_S, e1, pm_cl, e2, e3, ↓reduceIte]
theorem w_1439 {xs : Nat → Int32} {L j : Nat} {S : cr_S} (hj : 4 * j + 4 ≤ L) (hL : L ≤ 2048) (hR : R S (S.1 9)) (k23 : Int32 → cr_S → Option Unit) : ∃ S', s_L_law_1439 xs L k23 (nI (4 * j)) S = k23 (nI (4 * j + 4)) S' ∧ R S' (S'.1 9) := by
  obtain ⟨v, S1, P1, e1, e2, e3, e5⟩ := q_doneop hR
  refine ⟨cr_us S1 9 P1, ?_, by rw [cr_us_eq]; exact R_us e5⟩
  simp (disch := omega) only [s_L_law_1439, ↓pm_bd, pm_lit, pm_S, e1, pm_cl, e2, e3, ↓reduceIte]
