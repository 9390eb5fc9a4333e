/-! ### the law's cases -/
theorem lg_same (x : Int64) : lg_cmp x x = nI 0 := by
  unfold lg_cmp
  rw [if_neg (Int64.lt_irrefl (a := x)), if_pos rfl]
  rfl
theorem ul_1 (S : cr_S) (k : Nat) (v : Int64) : (cr_ul S k v).1 = S.1 := rfl
theorem ul_2 (S : cr_S) (v : Int64) (P : cr_G) : (cr_us (cr_ul S 1 v) 9 P).2 1 = v := rfl
theorem R_ul {S : cr_S} {P : cr_G} (h : R S P) (k : Nat) (v : Int64) : R (cr_us (cr_ul S k v) 9 P) P := R_c h (fun f _ h9 => cr_us_ne _ _ (by omega)) (fun _ _ => rfl) rfl rfl rfl rfl
theorem R_us {S : cr_S} {P : cr_G} (h : R S P) : R (cr_us S 9 P) P := R_c h (fun f _ h9 => cr_us_ne _ _ (by omega)) (fun _ _ => rfl) rfl rfl rfl rfl
theorem x_IA {C : String} {k : Nat} (h : cIA C = some k) : C = "java/lang/IllegalArgumentException" ∧ k = 1 := by
  unfold cIA at h
  split at h
  · exact ⟨by assumption, (Option.some.inj h).symm⟩
  · cases h
theorem x_IO {C : String} {k : Nat} (h : cIO C = some k) : C = "java/lang/IndexOutOfBoundsException" ∧ k = 1 := by
  unfold cIO at h
  split at h
  · exact ⟨by assumption, (Option.some.inj h).symm⟩
  · cases h
theorem x_IS {C : String} {k : Nat} (h : cIS C = some k) : C = "java/lang/IllegalStateException" ∧ k = 1 := by
  unfold cIS at h
  split at h
  · exact ⟨by assumption, (Option.some.inj h).symm⟩
  · cases h
theorem x_AS {C : String} {k : Nat} (h : cAS C = some k) : (C = "java/lang/IllegalArgumentException" ∧ k = 1) ∨ (C = "java/lang/IllegalStateException" ∧ k = 2) := by
  unfold cAS at h
  split at h
  · exact Or.inl ⟨by assumption, (Option.some.inj h).symm⟩
  · split at h
    · exact Or.inr ⟨by assumption, (Option.some.inj h).symm⟩
    · cases h
theorem x_OA {C : String} {k : Nat} (h : cOA C = some k) : (C = "java/lang/IndexOutOfBoundsException" ∧ k = 1) ∨ (C = "java/lang/IllegalArgumentException" ∧ k = 2) := by
  unfold cOA at h
  split at h
  · exact Or.inl ⟨by assumption, (Option.some.inj h).symm⟩
  · split at h
    · exact Or.inr ⟨by assumption, (Option.some.inj h).symm⟩
    · cases h
theorem x_OS {C : String} {k : Nat} (h : cOS C = some k) : (C = "java/lang/IndexOutOfBoundsException" ∧ k = 1) ∨ (C = "java/lang/IllegalStateException" ∧ k = 2) := by
  unfold cOS at h
  split at h
  · exact Or.inl ⟨by assumption, (Option.some.inj h).symm⟩
  · split at h
    · exact Or.inr ⟨by assumption, (Option.some.inj h).symm⟩
    · cases h
theorem w_160 {xs : Nat → Int32} {L j : Nat} {S : cr_S} (hj : 4 * j + 4 ≤ L) (hL : L ≤ 2048) (hR : R S (S.1 9)) (k23 : Int32 → cr_S → Option Unit) : ∃ S', s_L_law_160 xs L k23 (nI (4 * j)) S = k23 (nI (4 * j + 4)) S' ∧ R S' (S'.1 9) := by
  rcases q_addTurbine hR (xs (4 * j + 1)) (xs (4 * j + 2)) (xs (4 * j + 3)) with ⟨v, S1, P1, e1, e2, e3, e4, e5⟩ | ⟨C, k, w, P1, e1, e2, e3, e4, e5⟩
  · refine ⟨cr_us (cr_ul S1 1 v.toInt64) 9 P1, ?_, by rw [cr_us_eq]; exact R_ul e5 _ _⟩
    simp (disch := omega) only [s_L_law_160, s_L_addTurbine, cr_clc, s_X9_thrown, ↓pm_bd, pm_lit, pm_S, pm_gd, e1, pm_cl, ul_1, e2, e3, cr_us_eq, e4, Nat.zero_add, ul_2, lg_same, ↓reduceIte]
  · rcases x_AS e2 with ⟨rfl, rfl⟩ | ⟨rfl, rfl⟩
    · refine ⟨cr_us S 9 P1, ?_, by rw [cr_us_eq]; exact R_us e5⟩
      simp +decide (disch := omega) only [s_L_law_160, s_L_addTurbine, cr_clc, s_X9_thrown, ↓pm_bd, pm_lit, pm_S, pm_gd, e1, pm_cl, e3, cr_us_eq, e4, ↓reduceIte]
    · refine ⟨cr_us S 9 P1, ?_, by rw [cr_us_eq]; exact R_us e5⟩
      simp +decide (disch := omega) only [s_L_law_160, s_L_addTurbine, cr_clc, s_X9_thrown, ↓pm_bd, pm_lit, pm_S, pm_gd, e1, pm_cl, e3, cr_us_eq, e4, ↓reduceIte]
theorem w_240 {xs : Nat → Int32} {L j : Nat} {S : cr_S} (hj : 4 * j + 4 ≤ L) (hL : L ≤ 2048) (hR : R S (S.1 9)) (k23 : Int32 → cr_S → Option Unit) : ∃ S', s_L_law_240 xs L k23 (nI (4 * j)) S = k23 (nI (4 * j + 4)) S' ∧ R S' (S'.1 9) := by
  rcases q_setFault hR (xs (4 * j + 1)) (xs (4 * j + 2)) with ⟨v, S1, P1, e1, e2, e3, e4, e5⟩ | ⟨C, k, w, P1, e1, e2, e3, e4, e5⟩
  · refine ⟨cr_us (cr_ul S1 1 v.toInt64) 9 P1, ?_, by rw [cr_us_eq]; exact R_ul e5 _ _⟩
    simp (disch := omega) only [s_L_law_240, s_L_setFault, cr_clc, s_X9_thrown, ↓pm_bd, pm_lit, pm_S, pm_gd, e1, pm_cl, ul_1, e2, e3, cr_us_eq, e4, Nat.zero_add, ul_2, lg_same, ↓reduceIte]
  · rcases x_OA e2 with ⟨rfl, rfl⟩ | ⟨rfl, rfl⟩
    · refine ⟨cr_us S 9 P1, ?_, by rw [cr_us_eq]; exact R_us e5⟩
      simp +decide (disch := omega) only [s_L_law_240, s_L_setFault, cr_clc, s_X9_thrown, ↓pm_bd, pm_lit, pm_S, pm_gd, e1, pm_cl, e3, cr_us_eq, e4, ↓reduceIte]
    · refine ⟨cr_us S 9 P1, ?_, by rw [cr_us_eq]; exact R_us e5⟩
      simp +decide (disch := omega) only [s_L_law_240, s_L_setFault, cr_clc, s_X9_thrown, ↓pm_bd, pm_lit, pm_S, pm_gd, e1, pm_cl, e3, cr_us_eq, e4, ↓reduceIte]
theorem w_308 {xs : Nat → Int32} {L j : Nat} {S : cr_S} (hj : 4 * j + 4 ≤ L) (hL : L ≤ 2048) (hR : R S (S.1 9)) (k23 : Int32 → cr_S → Option Unit) : ∃ S', s_L_law_308 xs L k23 (nI (4 * j)) S = k23 (nI (4 * j + 4)) S' ∧ R S' (S'.1 9) := by
  rcases q_setBog hR (xs (4 * j + 1)) (xs (4 * j + 2)) with ⟨v, S1, P1, e1, e2, e3, e4, e5⟩ | ⟨C, k, w, P1, e1, e2, e3, e4, e5⟩
  · refine ⟨cr_us (cr_ul S1 1 v.toInt64) 9 P1, ?_, by rw [cr_us_eq]; exact R_ul e5 _ _⟩
    simp (disch := omega) only [s_L_law_308, s_L_setBog, cr_clc, s_X9_thrown, ↓pm_bd, pm_lit, pm_S, pm_gd, e1, pm_cl, ul_1, e2, e3, cr_us_eq, e4, Nat.zero_add, ul_2, lg_same, ↓reduceIte]
  · rcases x_AS e2 with ⟨rfl, rfl⟩ | ⟨rfl, rfl⟩
    · refine ⟨cr_us S 9 P1, ?_, by rw [cr_us_eq]; exact R_us e5⟩
      simp +decide (disch := omega) only [s_L_law_308, s_L_setBog, cr_clc, s_X9_thrown, ↓pm_bd, pm_lit, pm_S, pm_gd, e1, pm_cl, e3, cr_us_eq, e4, ↓reduceIte]
    · refine ⟨cr_us S 9 P1, ?_, by rw [cr_us_eq]; exact R_us e5⟩
      simp +decide (disch := omega) only [s_L_law_308, s_L_setBog, cr_clc, s_X9_thrown, ↓pm_bd, pm_lit, pm_S, pm_gd, e1, pm_cl, e3, cr_us_eq, e4, ↓reduceIte]
theorem w_376 {xs : Nat → Int32} {L j : Nat} {S : cr_S} (hj : 4 * j + 4 ≤ L) (hL : L ≤ 2048) (hR : R S (S.1 9)) (k23 : Int32 → cr_S → Option Unit) : ∃ S', s_L_law_376 xs L k23 (nI (4 * j)) S = k23 (nI (4 * j + 4)) S' ∧ R S' (S'.1 9) := by
  rcases q_set hR (xs (4 * j + 1)) (xs (4 * j + 2)) with ⟨v, S1, P1, e1, e2, e3, e4, e5⟩ | ⟨C, k, w, P1, e1, e2, e3, e4, e5⟩
  · refine ⟨cr_us (cr_ul S1 1 v.toInt64) 9 P1, ?_, by rw [cr_us_eq]; exact R_ul e5 _ _⟩
    simp (disch := omega) only [s_L_law_376, s_L_set, cr_clc, s_X9_thrown, ↓pm_bd, pm_lit, pm_S, pm_gd, e1, pm_cl, ul_1, e2, e3, cr_us_eq, e4, Nat.zero_add, ul_2, lg_same, ↓reduceIte]
  · rcases x_OA e2 with ⟨rfl, rfl⟩ | ⟨rfl, rfl⟩
    · refine ⟨cr_us S 9 P1, ?_, by rw [cr_us_eq]; exact R_us e5⟩
      simp +decide (disch := omega) only [s_L_law_376, s_L_set, cr_clc, s_X9_thrown, ↓pm_bd, pm_lit, pm_S, pm_gd, e1, pm_cl, e3, cr_us_eq, e4, ↓reduceIte]
    · refine ⟨cr_us S 9 P1, ?_, by rw [cr_us_eq]; exact R_us e5⟩
      simp +decide (disch := omega) only [s_L_law_376, s_L_set, cr_clc, s_X9_thrown, ↓pm_bd, pm_lit, pm_S, pm_gd, e1, pm_cl, e3, cr_us_eq, e4, ↓reduceIte]
theorem w_444 {xs : Nat → Int32} {L j : Nat} {S : cr_S} (hj : 4 * j + 4 ≤ L) (hL : L ≤ 2048) (hR : R S (S.1 9)) (k23 : Int32 → cr_S → Option Unit) : ∃ S', s_L_law_444 xs L k23 (nI (4 * j)) S = k23 (nI (4 * j + 4)) S' ∧ R S' (S'.1 9) := by
  rcases q_plan hR (xs (4 * j + 1)) (xs (4 * j + 2)) with ⟨v, S1, P1, e1, e2, e3, e4, e5⟩ | ⟨C, k, w, P1, e1, e2, e3, e4, e5⟩
  · refine ⟨cr_us (cr_ul S1 1 v.toInt64) 9 P1, ?_, by rw [cr_us_eq]; exact R_ul e5 _ _⟩
    simp (disch := omega) only [s_L_law_444, s_L_plan, cr_clc, s_X9_thrown, ↓pm_bd, pm_lit, pm_S, pm_gd, e1, pm_cl, ul_1, e2, e3, cr_us_eq, e4, Nat.zero_add, ul_2, lg_same, ↓reduceIte]
  · obtain ⟨rfl, rfl⟩ := x_IO e2
    refine ⟨cr_us S 9 P1, ?_, by rw [cr_us_eq]; exact R_us e5⟩
    simp +decide (disch := omega) only [s_L_law_444, s_L_plan, cr_clc, s_X9_thrown, ↓pm_bd, pm_lit, pm_S, pm_gd, e1, pm_cl, e3, cr_us_eq, e4, ↓reduceIte]
theorem w_512 {xs : Nat → Int32} {L j : Nat} {S : cr_S} (hj : 4 * j + 4 ≤ L) (hL : L ≤ 2048) (hR : R S (S.1 9)) (k23 : Int32 → cr_S → Option Unit) : ∃ S', s_L_law_512 xs L k23 (nI (4 * j)) S = k23 (nI (4 * j + 4)) S' ∧ R S' (S'.1 9) := by
  rcases q_unplan hR (xs (4 * j + 1)) with ⟨v, S1, P1, e1, e2, e3, e4, e5⟩ | ⟨C, k, w, P1, e1, e2, e3, e4, e5⟩
  · refine ⟨cr_us (cr_ul S1 1 v.toInt64) 9 P1, ?_, by rw [cr_us_eq]; exact R_ul e5 _ _⟩
    simp (disch := omega) only [s_L_law_512, s_L_unplan, cr_clc, s_X9_thrown, ↓pm_bd, pm_lit, pm_S, pm_gd, e1, pm_cl, ul_1, e2, e3, cr_us_eq, e4, Nat.zero_add, ul_2, lg_same, ↓reduceIte]
  · rcases x_OS e2 with ⟨rfl, rfl⟩ | ⟨rfl, rfl⟩
    · refine ⟨cr_us S 9 P1, ?_, by rw [cr_us_eq]; exact R_us e5⟩
      simp +decide (disch := omega) only [s_L_law_512, s_L_unplan, cr_clc, s_X9_thrown, ↓pm_bd, pm_lit, pm_S, pm_gd, e1, pm_cl, e3, cr_us_eq, e4, ↓reduceIte]
    · refine ⟨cr_us S 9 P1, ?_, by rw [cr_us_eq]; exact R_us e5⟩
      simp +decide (disch := omega) only [s_L_law_512, s_L_unplan, cr_clc, s_X9_thrown, ↓pm_bd, pm_lit, pm_S, pm_gd, e1, pm_cl, e3, cr_us_eq, e4, ↓reduceIte]
theorem w_568 {xs : Nat → Int32} {L j : Nat} {S : cr_S} (hj : 4 * j + 4 ≤ L) (hL : L ≤ 2048) (hR : R S (S.1 9)) (k23 : Int32 → cr_S → Option Unit) : ∃ S', s_L_law_568 xs L k23 (nI (4 * j)) S = k23 (nI (4 * j + 4)) S' ∧ R S' (S'.1 9) := by
  rcases q_orderBlade hR (xs (4 * j + 1)) with ⟨v, S1, P1, e1, e2, e3, e4, e5⟩ | ⟨C, k, w, P1, e1, e2, e3, e4, e5⟩
  · refine ⟨cr_us (cr_ul S1 1 v.toInt64) 9 P1, ?_, by rw [cr_us_eq]; exact R_ul e5 _ _⟩
    simp (disch := omega) only [s_L_law_568, s_L_orderBlade, cr_clc, s_X9_thrown, ↓pm_bd, pm_lit, pm_S, pm_gd, e1, pm_cl, ul_1, e2, e3, cr_us_eq, e4, Nat.zero_add, ul_2, lg_same, ↓reduceIte]
  · rcases x_OS e2 with ⟨rfl, rfl⟩ | ⟨rfl, rfl⟩
    · refine ⟨cr_us S 9 P1, ?_, by rw [cr_us_eq]; exact R_us e5⟩
      simp +decide (disch := omega) only [s_L_law_568, s_L_orderBlade, cr_clc, s_X9_thrown, ↓pm_bd, pm_lit, pm_S, pm_gd, e1, pm_cl, e3, cr_us_eq, e4, ↓reduceIte]
    · refine ⟨cr_us S 9 P1, ?_, by rw [cr_us_eq]; exact R_us e5⟩
      simp +decide (disch := omega) only [s_L_law_568, s_L_orderBlade, cr_clc, s_X9_thrown, ↓pm_bd, pm_lit, pm_S, pm_gd, e1, pm_cl, e3, cr_us_eq, e4, ↓reduceIte]
theorem w_624 {xs : Nat → Int32} {L j : Nat} {S : cr_S} (hj : 4 * j + 4 ≤ L) (hL : L ≤ 2048) (hR : R S (S.1 9)) (k23 : Int32 → cr_S → Option Unit) : ∃ S', s_L_law_624 xs L k23 (nI (4 * j)) S = k23 (nI (4 * j + 4)) S' ∧ R S' (S'.1 9) := by
  rcases q_pass hR (xs (4 * j + 1)) with ⟨v, S1, P1, e1, e2, e3, e4, e5⟩ | ⟨C, k, w, P1, e1, e2, e3, e4, e5⟩
  · refine ⟨cr_us (cr_ul S1 1 v.toInt64) 9 P1, ?_, by rw [cr_us_eq]; exact R_ul e5 _ _⟩
    simp (disch := omega) only [s_L_law_624, s_L_pass, cr_clc, s_X9_thrown, ↓pm_bd, pm_lit, pm_S, pm_gd, e1, pm_cl, ul_1, e2, e3, cr_us_eq, e4, Nat.zero_add, ul_2, lg_same, ↓reduceIte]
  · rcases x_AS e2 with ⟨rfl, rfl⟩ | ⟨rfl, rfl⟩
    · refine ⟨cr_us S 9 P1, ?_, by rw [cr_us_eq]; exact R_us e5⟩
      simp +decide (disch := omega) only [s_L_law_624, s_L_pass, cr_clc, s_X9_thrown, ↓pm_bd, pm_lit, pm_S, pm_gd, e1, pm_cl, e3, cr_us_eq, e4, ↓reduceIte]
    · refine ⟨cr_us S 9 P1, ?_, by rw [cr_us_eq]; exact R_us e5⟩
      simp +decide (disch := omega) only [s_L_law_624, s_L_pass, cr_clc, s_X9_thrown, ↓pm_bd, pm_lit, pm_S, pm_gd, e1, pm_cl, e3, cr_us_eq, e4, ↓reduceIte]
theorem w_680 {xs : Nat → Int32} {L j : Nat} {S : cr_S} (hj : 4 * j + 4 ≤ L) (hL : L ≤ 2048) (hR : R S (S.1 9)) (k23 : Int32 → cr_S → Option Unit) : ∃ S', s_L_law_680 xs L k23 (nI (4 * j)) S = k23 (nI (4 * j + 4)) S' ∧ R S' (S'.1 9) := by
  rcases q_append hR (xs (4 * j + 1)) with ⟨v, S1, P1, e1, e2, e3, e4, e5⟩ | ⟨C, k, w, P1, e1, e2, e3, e4, e5⟩
  · refine ⟨cr_us (cr_ul S1 1 v.toInt64) 9 P1, ?_, by rw [cr_us_eq]; exact R_ul e5 _ _⟩
    simp (disch := omega) only [s_L_law_680, s_L_append, cr_clc, s_X9_thrown, ↓pm_bd, pm_lit, pm_S, pm_gd, e1, pm_cl, ul_1, e2, e3, cr_us_eq, e4, Nat.zero_add, ul_2, lg_same, ↓reduceIte]
  · rcases x_AS e2 with ⟨rfl, rfl⟩ | ⟨rfl, rfl⟩
    · refine ⟨cr_us S 9 P1, ?_, by rw [cr_us_eq]; exact R_us e5⟩
      simp +decide (disch := omega) only [s_L_law_680, s_L_append, cr_clc, s_X9_thrown, ↓pm_bd, pm_lit, pm_S, pm_gd, e1, pm_cl, e3, cr_us_eq, e4, ↓reduceIte]
    · refine ⟨cr_us S 9 P1, ?_, by rw [cr_us_eq]; exact R_us e5⟩
      simp +decide (disch := omega) only [s_L_law_680, s_L_append, cr_clc, s_X9_thrown, ↓pm_bd, pm_lit, pm_S, pm_gd, e1, pm_cl, e3, cr_us_eq, e4, ↓reduceIte]
theorem w_806 {xs : Nat → Int32} {L j : Nat} {S : cr_S} (hj : 4 * j + 4 ≤ L) (hL : L ≤ 2048) (hR : R S (S.1 9)) (k23 : Int32 → cr_S → Option Unit) : ∃ S', s_L_law_806 xs L k23 (nI (4 * j)) S = k23 (nI (4 * j + 4)) S' ∧ R S' (S'.1 9) := by
  rcases q_undo hR  with ⟨v, S1, P1, e1, e2, e3, e4, e5⟩ | ⟨C, k, w, P1, e1, e2, e3, e4, e5⟩
  · refine ⟨cr_us (cr_ul S1 1 v.toInt64) 9 P1, ?_, by rw [cr_us_eq]; exact R_ul e5 _ _⟩
    simp (disch := omega) only [s_L_law_806, s_L_undo, cr_clc, s_X9_thrown, ↓pm_bd, pm_lit, pm_S, pm_gd, e1, pm_cl, ul_1, e2, e3, cr_us_eq, e4, Nat.zero_add, ul_2, lg_same, ↓reduceIte]
  · obtain ⟨rfl, rfl⟩ := x_IS e2
    refine ⟨cr_us S 9 P1, ?_, by rw [cr_us_eq]; exact R_us e5⟩
    simp +decide (disch := omega) only [s_L_law_806, s_L_undo, cr_clc, s_X9_thrown, ↓pm_bd, pm_lit, pm_S, pm_gd, e1, pm_cl, e3, cr_us_eq, e4, ↓reduceIte]
theorem w_850 {xs : Nat → Int32} {L j : Nat} {S : cr_S} (hj : 4 * j + 4 ≤ L) (hL : L ≤ 2048) (hR : R S (S.1 9)) (k23 : Int32 → cr_S → Option Unit) : ∃ S', s_L_law_850 xs L k23 (nI (4 * j)) S = k23 (nI (4 * j + 4)) S' ∧ R S' (S'.1 9) := by
  rcases q_turbine hR (xs (4 * j + 1)) (xs (4 * j + 2)) with ⟨v, P1, e1, e3, e4, e5⟩ | ⟨C, k, w, P1, e1, e2, e3, e4, e5⟩
  · refine ⟨cr_us (cr_ul S 1 v.toInt64) 9 P1, ?_, by rw [cr_us_eq]; exact R_ul e5 _ _⟩
    simp (disch := omega) only [s_L_law_850, s_L_turbine, cr_clc, s_X9_thrown, ↓pm_bd, pm_lit, pm_S, pm_gd, e1, pm_cl, ul_1, e3, cr_us_eq, e4, Nat.zero_add, ul_2, lg_same, ↓reduceIte]
  · rcases x_OA e2 with ⟨rfl, rfl⟩ | ⟨rfl, rfl⟩
    · refine ⟨cr_us S 9 P1, ?_, by rw [cr_us_eq]; exact R_us e5⟩
      simp +decide (disch := omega) only [s_L_law_850, s_L_turbine, cr_clc, s_X9_thrown, ↓pm_bd, pm_lit, pm_S, pm_gd, e1, pm_cl, e3, cr_us_eq, e4, ↓reduceIte]
    · refine ⟨cr_us S 9 P1, ?_, by rw [cr_us_eq]; exact R_us e5⟩
      simp +decide (disch := omega) only [s_L_law_850, s_L_turbine, cr_clc, s_X9_thrown, ↓pm_bd, pm_lit, pm_S, pm_gd, e1, pm_cl, e3, cr_us_eq, e4, ↓reduceIte]
theorem w_918 {xs : Nat → Int32} {L j : Nat} {S : cr_S} (hj : 4 * j + 4 ≤ L) (hL : L ≤ 2048) (hR : R S (S.1 9)) (k23 : Int32 → cr_S → Option Unit) : ∃ S', s_L_law_918 xs L k23 (nI (4 * j)) S = k23 (nI (4 * j + 4)) S' ∧ R S' (S'.1 9) := by
  rcases q_blade hR (xs (4 * j + 1)) (xs (4 * j + 2)) with ⟨v, P1, e1, e3, e4, e5⟩ | ⟨C, k, w, P1, e1, e2, e3, e4, e5⟩
  · refine ⟨cr_us (cr_ul S 1 v.toInt64) 9 P1, ?_, by rw [cr_us_eq]; exact R_ul e5 _ _⟩
    simp (disch := omega) only [s_L_law_918, s_L_blade, cr_clc, s_X9_thrown, ↓pm_bd, pm_lit, pm_S, pm_gd, e1, pm_cl, ul_1, e3, cr_us_eq, e4, Nat.zero_add, ul_2, lg_same, ↓reduceIte]
  · rcases x_OA e2 with ⟨rfl, rfl⟩ | ⟨rfl, rfl⟩
    · refine ⟨cr_us S 9 P1, ?_, by rw [cr_us_eq]; exact R_us e5⟩
      simp +decide (disch := omega) only [s_L_law_918, s_L_blade, cr_clc, s_X9_thrown, ↓pm_bd, pm_lit, pm_S, pm_gd, e1, pm_cl, e3, cr_us_eq, e4, ↓reduceIte]
    · refine ⟨cr_us S 9 P1, ?_, by rw [cr_us_eq]; exact R_us e5⟩
      simp +decide (disch := omega) only [s_L_law_918, s_L_blade, cr_clc, s_X9_thrown, ↓pm_bd, pm_lit, pm_S, pm_gd, e1, pm_cl, e3, cr_us_eq, e4, ↓reduceIte]
theorem w_986 {xs : Nat → Int32} {L j : Nat} {S : cr_S} (hj : 4 * j + 4 ≤ L) (hL : L ≤ 2048) (hR : R S (S.1 9)) (k23 : Int32 → cr_S → Option Unit) : ∃ S', s_L_law_986 xs L k23 (nI (4 * j)) S = k23 (nI (4 * j + 4)) S' ∧ R S' (S'.1 9) := by
  rcases q_bog hR (xs (4 * j + 1)) (xs (4 * j + 2)) with ⟨v, P1, e1, e3, e4, e5⟩ | ⟨C, k, w, P1, e1, e2, e3, e4, e5⟩
  · refine ⟨cr_us (cr_ul S 1 v.toInt64) 9 P1, ?_, by rw [cr_us_eq]; exact R_ul e5 _ _⟩
    simp (disch := omega) only [s_L_law_986, s_L_bog, cr_clc, s_X9_thrown, ↓pm_bd, pm_lit, pm_S, pm_gd, e1, pm_cl, ul_1, e3, cr_us_eq, e4, Nat.zero_add, ul_2, lg_same, ↓reduceIte]
  · rcases x_OA e2 with ⟨rfl, rfl⟩ | ⟨rfl, rfl⟩
    · refine ⟨cr_us S 9 P1, ?_, by rw [cr_us_eq]; exact R_us e5⟩
      simp +decide (disch := omega) only [s_L_law_986, s_L_bog, cr_clc, s_X9_thrown, ↓pm_bd, pm_lit, pm_S, pm_gd, e1, pm_cl, e3, cr_us_eq, e4, ↓reduceIte]
    · refine ⟨cr_us S 9 P1, ?_, by rw [cr_us_eq]; exact R_us e5⟩
      simp +decide (disch := omega) only [s_L_law_986, s_L_bog, cr_clc, s_X9_thrown, ↓pm_bd, pm_lit, pm_S, pm_gd, e1, pm_cl, e3, cr_us_eq, e4, ↓reduceIte]
theorem w_1054 {xs : Nat → Int32} {L j : Nat} {S : cr_S} (hj : 4 * j + 4 ≤ L) (hL : L ≤ 2048) (hR : R S (S.1 9)) (k23 : Int32 → cr_S → Option Unit) : ∃ S', s_L_law_1054 xs L k23 (nI (4 * j)) S = k23 (nI (4 * j + 4)) S' ∧ R S' (S'.1 9) := by
  rcases q_claims hR (xs (4 * j + 1)) with ⟨v, P1, e1, e3, e4, e5⟩ | ⟨C, k, w, P1, e1, e2, e3, e4, e5⟩
  · refine ⟨cr_us (cr_ul S 1 v.toInt64) 9 P1, ?_, by rw [cr_us_eq]; exact R_ul e5 _ _⟩
    simp (disch := omega) only [s_L_law_1054, s_L_claims, cr_clc, s_X9_thrown, ↓pm_bd, pm_lit, pm_S, pm_gd, e1, pm_cl, ul_1, e3, cr_us_eq, e4, Nat.zero_add, ul_2, lg_same, ↓reduceIte]
  · obtain ⟨rfl, rfl⟩ := x_IA e2
    refine ⟨cr_us S 9 P1, ?_, by rw [cr_us_eq]; exact R_us e5⟩
    simp +decide (disch := omega) only [s_L_law_1054, s_L_claims, cr_clc, s_X9_thrown, ↓pm_bd, pm_lit, pm_S, pm_gd, e1, pm_cl, e3, cr_us_eq, e4, ↓reduceIte]
theorem w_1110 {xs : Nat → Int32} {L j : Nat} {S : cr_S} (hj : 4 * j + 4 ≤ L) (hL : L ≤ 2048) (hR : R S (S.1 9)) (k23 : Int32 → cr_S → Option Unit) : ∃ S', s_L_law_1110 xs L k23 (nI (4 * j)) S = k23 (nI (4 * j + 4)) S' ∧ R S' (S'.1 9) := by
  rcases q_count hR (xs (4 * j + 1)) with ⟨v, P1, e1, e3, e4, e5⟩ | ⟨C, k, w, P1, e1, e2, e3, e4, e5⟩
  · refine ⟨cr_us (cr_ul S 1 v.toInt64) 9 P1, ?_, by rw [cr_us_eq]; exact R_ul e5 _ _⟩
    simp (disch := omega) only [s_L_law_1110, s_L_count, cr_clc, s_X9_thrown, ↓pm_bd, pm_lit, pm_S, pm_gd, e1, pm_cl, ul_1, e3, cr_us_eq, e4, Nat.zero_add, ul_2, lg_same, ↓reduceIte]
  · obtain ⟨rfl, rfl⟩ := x_IA e2
    refine ⟨cr_us S 9 P1, ?_, by rw [cr_us_eq]; exact R_us e5⟩
    simp +decide (disch := omega) only [s_L_law_1110, s_L_count, cr_clc, s_X9_thrown, ↓pm_bd, pm_lit, pm_S, pm_gd, e1, pm_cl, e3, cr_us_eq, e4, ↓reduceIte]
theorem w_1166 {xs : Nat → Int32} {L j : Nat} {S : cr_S} (hj : 4 * j + 4 ≤ L) (hL : L ≤ 2048) (hR : R S (S.1 9)) (k23 : Int32 → cr_S → Option Unit) : ∃ S', s_L_law_1166 xs L k23 (nI (4 * j)) S = k23 (nI (4 * j + 4)) S' ∧ R S' (S'.1 9) := by
  rcases q_setting hR (xs (4 * j + 1)) with ⟨v, P1, e1, e3, e4, e5⟩ | ⟨C, k, w, P1, e1, e2, e3, e4, e5⟩
  · refine ⟨cr_us (cr_ul S 1 v.toInt64) 9 P1, ?_, by rw [cr_us_eq]; exact R_ul e5 _ _⟩
    simp (disch := omega) only [s_L_law_1166, s_L_setting, cr_clc, s_X9_thrown, ↓pm_bd, pm_lit, pm_S, pm_gd, e1, pm_cl, ul_1, e3, cr_us_eq, e4, Nat.zero_add, ul_2, lg_same, ↓reduceIte]
  · obtain ⟨rfl, rfl⟩ := x_IO e2
    refine ⟨cr_us S 9 P1, ?_, by rw [cr_us_eq]; exact R_us e5⟩
    simp +decide (disch := omega) only [s_L_law_1166, s_L_setting, cr_clc, s_X9_thrown, ↓pm_bd, pm_lit, pm_S, pm_gd, e1, pm_cl, e3, cr_us_eq, e4, ↓reduceIte]
theorem w_1222 {xs : Nat → Int32} {L j : Nat} {S : cr_S} (hj : 4 * j + 4 ≤ L) (hL : L ≤ 2048) (hR : R S (S.1 9)) (k23 : Int32 → cr_S → Option Unit) : ∃ S', s_L_law_1222 xs L k23 (nI (4 * j)) S = k23 (nI (4 * j + 4)) S' ∧ R S' (S'.1 9) := by
  rcases q_wayop hR (xs (4 * j + 1)) (xs (4 * j + 2)) with ⟨v, P1, e1, e3, e4, e5⟩ | ⟨C, k, w, P1, e1, e2, e3, e4, e5⟩
  · refine ⟨cr_us (cr_ul S 1 v.toInt64) 9 P1, ?_, by rw [cr_us_eq]; exact R_ul e5 _ _⟩
    simp (disch := omega) only [s_L_law_1222, s_L_way, cr_clc, s_X9_thrown, ↓pm_bd, pm_lit, pm_S, pm_gd, e1, pm_cl, ul_1, e3, cr_us_eq, e4, Nat.zero_add, ul_2, lg_same, ↓reduceIte]
  · obtain ⟨rfl, rfl⟩ := x_IA e2
    refine ⟨cr_us S 9 P1, ?_, by rw [cr_us_eq]; exact R_us e5⟩
    simp +decide (disch := omega) only [s_L_law_1222, s_L_way, cr_clc, s_X9_thrown, ↓pm_bd, pm_lit, pm_S, pm_gd, e1, pm_cl, e3, cr_us_eq, e4, ↓reduceIte]
theorem w_1290 {xs : Nat → Int32} {L j : Nat} {S : cr_S} (hj : 4 * j + 4 ≤ L) (hL : L ≤ 2048) (hR : R S (S.1 9)) (k23 : Int32 → cr_S → Option Unit) : ∃ S', s_L_law_1290 xs L k23 (nI (4 * j)) S = k23 (nI (4 * j + 4)) S' ∧ R S' (S'.1 9) := by
  rcases q_ifPassed hR (xs (4 * j + 1)) (xs (4 * j + 2)) with ⟨v, S1, P1, e1, e2, e3, e4, e5⟩ | ⟨C, k, w, P1, e1, e2, e3, e4, e5⟩
  · refine ⟨cr_us (cr_ul S1 1 v.toInt64) 9 P1, ?_, by rw [cr_us_eq]; exact R_ul e5 _ _⟩
    simp (disch := omega) only [s_L_law_1290, s_L_ifPassed, cr_clc, s_X9_thrown, ↓pm_bd, pm_lit, pm_S, pm_gd, e1, pm_cl, ul_1, e2, e3, cr_us_eq, e4, Nat.zero_add, ul_2, lg_same, ↓reduceIte]
  · obtain ⟨rfl, rfl⟩ := x_IA e2
    refine ⟨cr_us S 9 P1, ?_, by rw [cr_us_eq]; exact R_us e5⟩
    simp +decide (disch := omega) only [s_L_law_1290, s_L_ifPassed, cr_clc, s_X9_thrown, ↓pm_bd, pm_lit, pm_S, pm_gd, e1, pm_cl, e3, cr_us_eq, e4, ↓reduceIte]
theorem w_1371 {xs : Nat → Int32} {L j : Nat} {S : cr_S} (hj : 4 * j + 4 ≤ L) (hL : L ≤ 2048) (hR : R S (S.1 9)) (k23 : Int32 → cr_S → Option Unit) : ∃ S', s_L_law_1371 xs L k23 (nI (4 * j)) S = k23 (nI (4 * j + 4)) S' ∧ R S' (S'.1 9) := by
  rcases q_windowop hR (xs (4 * j + 1)) (xs (4 * j + 2)) with ⟨v, P1, e1, e3, e4, e5⟩ | ⟨C, k, w, P1, e1, e2, e3, e4, e5⟩
  · refine ⟨cr_us (cr_ul S 1 v.toInt64) 9 P1, ?_, by rw [cr_us_eq]; exact R_ul e5 _ _⟩
    simp (disch := omega) only [s_L_law_1371, s_L_window, cr_clc, s_X9_thrown, ↓pm_bd, pm_lit, pm_S, pm_gd, e1, pm_cl, ul_1, e3, cr_us_eq, e4, Nat.zero_add, ul_2, lg_same, ↓reduceIte]
  · rcases x_OA e2 with ⟨rfl, rfl⟩ | ⟨rfl, rfl⟩
    · refine ⟨cr_us S 9 P1, ?_, by rw [cr_us_eq]; exact R_us e5⟩
      simp +decide (disch := omega) only [s_L_law_1371, s_L_window, cr_clc, s_X9_thrown, ↓pm_bd, pm_lit, pm_S, pm_gd, e1, pm_cl, e3, cr_us_eq, e4, ↓reduceIte]
    · refine ⟨cr_us S 9 P1, ?_, by rw [cr_us_eq]; exact R_us e5⟩
      simp +decide (disch := omega) only [s_L_law_1371, s_L_window, cr_clc, s_X9_thrown, ↓pm_bd, pm_lit, pm_S, pm_gd, e1, pm_cl, e3, cr_us_eq, e4, ↓reduceIte]
