/-! ### winds: letters, one after the other -/
def cdS (S : cr_S) (k : Nat) : Nat := (S.1 8 3 k).toNatClampNeg
def tx (S : cr_S) (l : Nat) : Prop := S.1 8 2 1 = nI l ∧ l ≤ 60 ∧ (∀ k, k < l → S.1 8 3 k = nI (cdS S k) ∧ cdS S k < 127) ∧ ∃ P, R S P
def EX (S S' : cr_S) (l l' : Nat) : Prop := (∀ f, f ≠ 8 → S'.1 f = S.1 f) ∧ S'.1 8 0 = S.1 8 0 ∧ (∀ k, k < l → cdS S' k = cdS S k) ∧ tx S' l' ∧ l ≤ l'
theorem EX_tr {S S' S'' : cr_S} {l l' l'' : Nat} (h : EX S S' l l') (h' : EX S' S'' l' l'') : EX S S'' l l'' := by
  obtain ⟨a1, a2, a3, a4, a5⟩ := h
  obtain ⟨b1, b2, b3, b4, b5⟩ := h'
  exact ⟨fun f hf => (b1 f hf).trans (a1 f hf), b2.trans a2, fun k hk => (b3 k (by omega)).trans (a3 k hk), b4, by omega⟩
theorem w_app {S : cr_S} {l n : Nat} (h : tx S l) (hl : l < 60) (h1 : 33 ≤ n) (h2 : n ≤ 126) : ∃ S', t_X8_append (nI n) S = some (nI (l + 1), S') ∧ EX S S' l (l + 1) ∧ cdS S' l = n := by
  obtain ⟨t1, t2, t3, P, hR⟩ := h
  have w1 := c_wi (n := n) (lo := 33) (hi := 126) (by omega) (by omega) (by omega)
  have ev : s_X8_append S (nI n) = some (.inr (nI (l + 1), cr_us S 8 (cr_pt (cr_pt (S.1 8) 3 l (nI n)) 2 1 (nI (l + 1))))) := by
    simp (disch := omega) only [s_X8_append, s_X6_isFull, s_X6_add, ↓pm_bd, pm_lit, w1, pm_cl, t1, pm_C, hl, pm_in, pm_gd, nI_clamp, pm_ptne, pm_add, cr_us_eq, pm_pt, pm_u, ↓reduceIte, Bool.false_eq_true]
  have ev2 : t_X8_append (nI n) S = some (nI (l + 1), cr_us S 8 (cr_pt (cr_pt (S.1 8) 3 l (nI n)) 2 1 (nI (l + 1)))) := by
    simp (disch := omega) only [t_X8_append, s_X6_isFull, s_X6_add, ↓pm_bd, pm_lit, w1, pm_cl, t1, pm_C, hl, pm_in, pm_gd, nI_clamp, pm_ptne, pm_add, cr_us_eq, pm_pt, pm_u, ↓reduceIte, Bool.false_eq_true]
  have hR' : ∃ P1, R (cr_us S 8 (cr_pt (cr_pt (S.1 8) 3 l (nI n)) 2 1 (nI (l + 1)))) P1 := by
    rcases q_append hR (nI n) with ⟨v, S1, P1, e1, -, -, -, e5⟩ | ⟨C, k, w, P1, e1, -⟩
    · rw [ev] at e1
      have h3 := (Prod.mk.inj (Sum.inr.inj (Option.some.inj e1))).2
      exact ⟨P1, h3 ▸ e5⟩
    · rw [ev] at e1
      exact absurd (Option.some.inj e1) (fun h => by cases h)
  have c0 : ∀ k, k < l → (cr_us S 8 (cr_pt (cr_pt (S.1 8) 3 l (nI n)) 2 1 (nI (l + 1)))).1 8 3 k = S.1 8 3 k := fun k hk => by
    rw [cr_us_eq, pm_ptne _ _ _ (by omega), pm_pt, pm_un _ _ (by omega)]
  have c1 : (cr_us S 8 (cr_pt (cr_pt (S.1 8) 3 l (nI n)) 2 1 (nI (l + 1)))).1 8 3 l = nI n := by
    rw [cr_us_eq, pm_ptne _ _ _ (by omega), pm_pt, pm_u]
  have c2 : cdS (cr_us S 8 (cr_pt (cr_pt (S.1 8) 3 l (nI n)) 2 1 (nI (l + 1)))) l = n := by
    unfold cdS
    rw [c1]
    exact nI_clamp (by omega)
  refine ⟨_, ev2, ⟨fun f hf => cr_us_ne _ _ hf, by rw [cr_us_eq, pm_ptne _ _ _ (by omega), pm_ptne _ _ _ (by omega)], fun k hk => by unfold cdS; rw [c0 k hk], ⟨by rw [cr_us_eq, pm_pt, pm_u], by omega, fun k hk => ?_, hR'⟩, by omega⟩, c2⟩
  by_cases e : k = l
  · subst e
    rw [c2, c1]
    exact ⟨rfl, by omega⟩
  · have h4 := t3 k (by omega)
    unfold cdS at h4 ⊢
    rw [c0 k (by omega)]
    exact h4
theorem w_20 {S : cr_S} {l v : Nat} (h : tx S l) (hl : l < 60) (hv : v ≤ 99) : ∃ S', s_L_number_20 (nI v) S = some (true, S') ∧ EX S S' l (l + 1) ∧ cdS S' l = 48 + v % 10 := by
  have hm : v % 10 < 10 := Nat.mod_lt _ (by omega)
  obtain ⟨S', e1, e2, e3⟩ := w_app (n := 48 + v % 10) h hl (by omega) (by omega)
  refine ⟨S', ?_, e2, e3⟩
  have n0 : ¬ l + 1 ≤ 0 := by omega
  simp (disch := omega) only [s_L_number_20, pm_lit, pk_rem, pm_add, e1, pm_cl, pm_C, n0, ↓reduceIte]
theorem w_num {S : cr_S} {l v : Nat} (h : tx S l) (hl : l + 2 ≤ 60) (hv : v ≤ 99) : ∃ (S' : cr_S) (l' : Nat), s_L_number (nI v) S = some (true, S') ∧ EX S S' l l' ∧ ((v < 10 ∧ l' = l + 1 ∧ cdS S' l = 48 + v) ∨ (10 ≤ v ∧ l' = l + 2 ∧ cdS S' l = 48 + v / 10 ∧ cdS S' (l + 1) = 48 + v % 10)) := by
  by_cases e : v < 10
  · obtain ⟨S', e1, e2, e3⟩ := w_20 (v := v) h (by omega) hv
    refine ⟨S', l + 1, ?_, e2, Or.inl ⟨e, rfl, by rw [e3, Nat.mod_eq_of_lt e]⟩⟩
    simp (disch := omega) only [s_L_number, pm_lit, pm_C, e, e1, ↓reduceIte]
  · obtain ⟨S1, e1, e2, e3⟩ := w_app (n := 48 + v / 10) h (by omega) (by omega) (by omega)
    obtain ⟨S', f1, f2, f3⟩ := w_20 (v := v) e2.2.2.2.1 (by omega) hv
    refine ⟨S', l + 2, ?_, EX_tr e2 f2, Or.inr ⟨by omega, rfl, (f2.2.2.1 l (by omega)).trans e3, f3⟩⟩
    have n0 : ¬ l + 1 ≤ 0 := by omega
    simp (disch := omega) only [s_L_number, pm_lit, pm_C, e, pk_div, pm_add, e1, pm_cl, n0, f1, ↓reduceIte]
/-! ### winds: a part, parts -/
def sg (cd : Nat → Nat) (b e v T : Nat) : Prop := v ≤ 30 ∧ 1 ≤ T ∧ T ≤ 10 ∧ ∃ b1, ((v < 10 ∧ cd b = 48 + v ∧ b1 = b + 1) ∨ (10 ≤ v ∧ cd b = 48 + v / 10 ∧ cd (b + 1) = 48 + v % 10 ∧ b1 = b + 2)) ∧ ((T = 1 ∧ e = b1) ∨ (2 ≤ T ∧ T ≤ 9 ∧ cd b1 = 42 ∧ cd (b1 + 1) = 48 + T ∧ e = b1 + 2) ∨ (T = 10 ∧ cd b1 = 42 ∧ cd (b1 + 1) = 49 ∧ cd (b1 + 2) = 48 ∧ e = b1 + 3))
theorem sg_c {cd cd' : Nat → Nat} {b e v T : Nat} (h : sg cd b e v T) (hc : ∀ i, i < e → cd' i = cd i) : sg cd' b e v T := by
  obtain ⟨h1, h2, h3, b1, h4, h5⟩ := h
  refine ⟨h1, h2, h3, b1, ?_, ?_⟩
  · rcases h4 with ⟨a1, a2, a3⟩ | ⟨a1, a2, a3, a4⟩
    · exact Or.inl ⟨a1, by rw [hc _ (by omega)]; exact a2, a3⟩
    · exact Or.inr ⟨a1, by rw [hc _ (by omega)]; exact a2, by rw [hc _ (by omega)]; exact a3, a4⟩
  · rcases h5 with ⟨a1, a2⟩ | ⟨a1, a2, a3, a4, a5⟩ | ⟨a1, a2, a3, a4, a5⟩
    · exact Or.inl ⟨a1, a2⟩
    · exact Or.inr (Or.inl ⟨a1, a2, by rw [hc _ (by omega)]; exact a3, by rw [hc _ (by omega)]; exact a4, a5⟩)
    · exact Or.inr (Or.inr ⟨a1, by rw [hc _ (by omega)]; exact a2, by rw [hc _ (by omega)]; exact a3, by rw [hc _ (by omega)]; exact a4, a5⟩)
theorem sg_n {cd : Nat → Nat} {b e v T : Nat} (h : sg cd b e v T) : b < e ∧ e ≤ b + 5 ∧ ∀ i, b ≤ i → i < e → cd i ≠ 44 := by
  obtain ⟨h1, h2, h3, b1, h4, h5⟩ := h
  refine ⟨by omega, by omega, fun i hi1 hi2 => ?_⟩
  have hx : i < b1 → cd i ≠ 44 := fun hi => by
    rcases h4 with ⟨a1, a2, a3⟩ | ⟨a1, a2, a3, a4⟩
    · rw [show i = b by omega]; omega
    · have h9 : i = b ∨ i = b + 1 := by omega
      rcases h9 with rfl | rfl <;> omega
  by_cases e9 : i < b1
  · exact hx e9
  · have h9 : i = b1 ∨ i = b1 + 1 ∨ i = b1 + 2 := by omega
    rcases h9 with rfl | rfl | rfl <;> omega
theorem stt_s (cd : Nat → Nat) (k : Nat) : stt cd (k + 1) = aft (stt cd k) (cd k) := rfl
theorem sg_num {cd : Nat → Nat} {b b1 v : Nat} (hv : v ≤ 30) (hs : stt cd b = 1) (h4 : (v < 10 ∧ cd b = 48 + v ∧ b1 = b + 1) ∨ (10 ≤ v ∧ cd b = 48 + v / 10 ∧ cd (b + 1) = 48 + v % 10 ∧ b1 = b + 2)) : stt cd b1 = 2 ∨ stt cd b1 = 3 ∨ stt cd b1 = 4 := by
  rcases h4 with ⟨a1, a2, a3⟩ | ⟨a1, a2, a3, a4⟩
  · subst a3
    rw [stt_s, hs, a2, aftd 1 (by omega) v (by omega)]
    have := dig1b v (by omega)
    omega
  · subst a4
    have e1 : stt cd (b + 1) = dig 1 (v / 10) := by rw [stt_s, hs, a2, aftd 1 (by omega) _ (by omega)]
    have e2 : stt cd (b + 2) = dig (dig 1 (v / 10)) (v % 10) := by
      rw [show b + 2 = (b + 1) + 1 from rfl, stt_s, e1, a3]
      have hb := dig1b (v / 10) (by omega)
      exact aftd _ (by omega) _ (by omega)
    rw [e2]
    have h9 : v / 10 = 1 ∨ v / 10 = 2 ∨ (v / 10 = 3 ∧ v % 10 = 0) := by omega
    rcases h9 with h9 | h9 | ⟨h9, h10⟩
    · rw [h9, show dig 1 1 = 2 by decide, dig2 _ (by omega)]; exact Or.inr (Or.inr rfl)
    · rw [h9, show dig 1 2 = 2 by decide, dig2 _ (by omega)]; exact Or.inr (Or.inr rfl)
    · rw [h9, h10]; decide
theorem sg_s {cd : Nat → Nat} {b e v T : Nat} (h : sg cd b e v T) (hs : stt cd b = 1) : edb (stt cd e) = true ∧ stt cd e < 10 := by
  obtain ⟨h1, h2, h3, b1, h4, h5⟩ := h
  have hn := sg_num h1 hs h4
  have h42 : cd b1 = 42 → stt cd (b1 + 1) = 5 := fun hc => by
    rw [stt_s, hc, aft42 _ (by omega), if_pos hn]
  rcases h5 with ⟨a1, a2⟩ | ⟨a1, a2, a3, a4, a5⟩ | ⟨a1, a2, a3, a4, a5⟩
  · subst a2
    rcases hn with e | e | e <;> rw [e] <;> decide
  · subst a5
    have e1 : stt cd (b1 + 2) = dig 5 T := by
      rw [show b1 + 2 = (b1 + 1) + 1 from rfl, stt_s, h42 a3, a4, aftd 5 (by omega) T (by omega)]
    rw [e1]
    have h9 : T = 2 ∨ T = 3 ∨ T = 4 ∨ T = 5 ∨ T = 6 ∨ T = 7 ∨ T = 8 ∨ T = 9 := by omega
    rcases h9 with rfl | rfl | rfl | rfl | rfl | rfl | rfl | rfl <;> decide
  · subst a5
    have e1 : stt cd (b1 + 2) = 6 := by
      rw [show b1 + 2 = (b1 + 1) + 1 from rfl, stt_s, h42 a2, a3]; decide
    have e2 : stt cd (b1 + 3) = 9 := by
      rw [show b1 + 3 = (b1 + 2) + 1 from rfl, stt_s, e1, a4]; decide
    rw [e2]
    decide
theorem sg_V {A : cr_G} {cd : Nat → Nat} {len b e v T : Nat} (hA : ax A cd len) (h : sg cd b e v T) (he : e = len ∨ (e < len ∧ cd e = 44)) : s_X6_valueFrom A (nI b) = some (nI v) := by
  obtain ⟨h1, h2, h3, b1, h4, h5⟩ := h
  have hstop : ∀ n, s_X6_valueFrom_4 A (n + 1) (nI v) (nI b1) = some (nI v) := fun n => by
    rcases h5 with ⟨a1, a2⟩ | ⟨a1, a2, a3, a4, a5⟩ | ⟨a1, a2, a3, a4, a5⟩
    · subst a2
      exact V_stop hA he
    · exact V_x hA (by omega) (by omega)
    · exact V_x hA (by omega) (by omega)
  simp only [s_X6_valueFrom, pm_lit]
  rcases h4 with ⟨a1, a2, a3⟩ | ⟨a1, a2, a3, a4⟩
  · have k1 := V_d (n := 1199) (x := 0) hA (show b < len by omega) a2 (by omega)
    rw [k1, show 10 * 0 + v = v by omega, ← a3]
    exact hstop 1198
  · have k1 := V_d (n := 1199) (x := 0) hA (show b < len by omega) a2 (by omega)
    have k2 := V_d (n := 1198) (x := 10 * 0 + v / 10) hA (show b + 1 < len by omega) a3 (by omega)
    rw [k1, k2, show 10 * (10 * 0 + v / 10) + v % 10 = v by omega, show b + 1 + 1 = b1 by omega]
    exact hstop 1197
theorem sg_T {A : cr_G} {cd : Nat → Nat} {len b e v T : Nat} (hA : ax A cd len) (h : sg cd b e v T) (he : e = len ∨ (e < len ∧ cd e = 44)) : s_X6_timesFrom A (nI b) = some (nI T) := by
  obtain ⟨h1, h2, h3, b1, h4, h5⟩ := h
  have hstop : ∀ n, s_X6_timesFrom_2 A (n + 1) (nI b1) = some (nI T) := fun n => by
    rcases h5 with ⟨a1, a2⟩ | ⟨a1, a2, a3, a4, a5⟩ | ⟨a1, a2, a3, a4, a5⟩
    · subst a2 a1
      exact T_stop hA he
    · subst a5
      have k1 := V_d (n := 1199) (x := 0) hA (show b1 + 1 < len by omega) a4 (by omega)
      rw [T_m hA (by omega) a3, show nI 0 = nI 0 from rfl, k1, show 10 * 0 + T = T by omega]
      exact V_stop (n := 1198) hA he
    · subst a5 a1
      have k1 := V_d (n := 1199) (x := 0) (d := 1) hA (show b1 + 1 < len by omega) a3 (by omega)
      have k2 := V_d (n := 1198) (x := 10 * 0 + 1) (d := 0) hA (show b1 + 1 + 1 < len by omega) a4 (by omega)
      rw [T_m hA (by omega) a2, k1, k2]
      exact V_stop (n := 1197) hA he
  simp only [s_X6_timesFrom]
  rcases h4 with ⟨a1, a2, a3⟩ | ⟨a1, a2, a3, a4⟩
  · rw [T_s (n := 1199) hA (show b < len by omega) (by omega) (by omega), ← a3]
    exact hstop 1198
  · rw [T_s (n := 1199) hA (show b < len by omega) (by omega) (by omega), T_s (n := 1198) hA (show b + 1 < len by omega) (by omega) (by omega), show b + 1 + 1 = b1 by omega]
    exact hstop 1197
