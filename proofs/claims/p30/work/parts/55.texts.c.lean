/-! ### texts: one part of a complete row -/
theorem V_d {A : cr_G} {cd : Nat → Nat} {len k x d n : Nat} (hA : ax A cd len) (hk : k < len) (hc : cd k = 48 + d) (hd : d ≤ 9) : s_X6_valueFrom_4 A (n + 1) (nI x) (nI k) = s_X6_valueFrom_4 A n (nI (10 * x + d)) (nI (k + 1)) := by
  obtain ⟨hl, h2, h3⟩ := hA
  have hck : ¬ len ≤ k := by omega
  have h4 := (h3 k hk).1
  rw [hc] at h4
  have e1 : ¬ 48 + d < 48 := by omega
  have e2 : ¬ 57 < 48 + d := by omega
  have e3 : 10 * x + (48 + d) - 48 = 10 * x + d := by omega
  simp (disch := omega) only [s_X6_valueFrom_4, ↓pm_bd, pm_gd, pm_lit, pm_S, pk_mul, h2, h4, pm_C, hck, e1, e2, e3, ↓reduceIte]
theorem V_e {A : cr_G} {cd : Nat → Nat} {len n : Nat} {x : Int32} (hA : ax A cd len) : s_X6_valueFrom_4 A (n + 1) x (nI len) = some x := by
  obtain ⟨hl, h2, h3⟩ := hA
  simp (disch := omega) only [s_X6_valueFrom_4, h2, pm_C, Nat.le_refl, ↓reduceIte]
theorem V_x {A : cr_G} {cd : Nat → Nat} {len k n : Nat} {x : Int32} (hA : ax A cd len) (hk : k < len) (hc : cd k < 48) : s_X6_valueFrom_4 A (n + 1) x (nI k) = some x := by
  obtain ⟨hl, h2, h3⟩ := hA
  have hck : ¬ len ≤ k := by omega
  have h4 := (h3 k hk).1
  simp (disch := omega) only [s_X6_valueFrom_4, ↓pm_bd, pm_gd, pm_lit, pm_S, h2, h4, pm_C, hck, hc, ↓reduceIte]
theorem V_stop {A : cr_G} {cd : Nat → Nat} {len k n : Nat} {x : Int32} (hA : ax A cd len) (hk : k = len ∨ (k < len ∧ cd k = 44)) : s_X6_valueFrom_4 A (n + 1) x (nI k) = some x := by
  rcases hk with rfl | ⟨hk, hc⟩
  · exact V_e hA
  · exact V_x hA hk (by omega)
theorem T_s {A : cr_G} {cd : Nat → Nat} {len k n : Nat} (hA : ax A cd len) (hk : k < len) (h1 : ¬ cd k = 44) (h5 : ¬ cd k = 42) : s_X6_timesFrom_2 A (n + 1) (nI k) = s_X6_timesFrom_2 A n (nI (k + 1)) := by
  obtain ⟨hl, h2, h3⟩ := hA
  have hck : ¬ len ≤ k := by omega
  have h4 := (h3 k hk).1
  have h6 := (h3 k hk).2
  simp (disch := omega) only [s_X6_timesFrom_2, ↓pm_bd, pm_gd, pm_lit, pm_S, h2, h4, pm_C, hck, h1, h5, ↓reduceIte]
theorem T_m {A : cr_G} {cd : Nat → Nat} {len k n : Nat} (hA : ax A cd len) (hk : k < len) (hc : cd k = 42) : s_X6_timesFrom_2 A (n + 1) (nI k) = s_X6_valueFrom_4 A 1200 (nI 0) (nI (k + 1)) := by
  obtain ⟨hl, h2, h3⟩ := hA
  have hck : ¬ len ≤ k := by omega
  have h4 := (h3 k hk).1
  rw [hc] at h4
  have n1 : ¬ (42 : Nat) = 44 := by omega
  simp (disch := omega) only [s_X6_timesFrom_2, s_X6_valueFrom, ↓pm_bd, pm_gd, pm_lit, pm_S, h2, h4, pm_C, hck, n1, cl_some, ↓reduceIte]
theorem T_stop {A : cr_G} {cd : Nat → Nat} {len k n : Nat} (hA : ax A cd len) (hk : k = len ∨ (k < len ∧ cd k = 44)) : s_X6_timesFrom_2 A (n + 1) (nI k) = some (nI 1) := by
  rcases hk with rfl | ⟨hk, hc⟩
  · obtain ⟨hl, h2, h3⟩ := hA
    simp (disch := omega) only [s_X6_timesFrom_2, pm_lit, h2, pm_C, Nat.le_refl, ↓reduceIte]
  · obtain ⟨hl, h2, h3⟩ := hA
    have hck : ¬ len ≤ k := by omega
    have h4 := (h3 k hk).1
    rw [hc] at h4
    simp (disch := omega) only [s_X6_timesFrom_2, ↓pm_bd, pm_gd, pm_lit, pm_S, h2, h4, pm_C, hck, ↓reduceIte]
/-! which letters are right -/
theorem cls1 {c : Nat} (h : aft 1 c ≠ 0) : ∃ d, d ≤ 9 ∧ c = 48 + d := by
  rcases let4 c with rfl | rfl | h1 | ⟨h1, h2, h3⟩
  · exact absurd (by decide) h
  · exact absurd (by decide) h
  · exact h1
  · exact absurd (afto h1 h2 h3) h
theorem cls23 {s c : Nat} (hs : s = 2 ∨ s = 3) (h : aft s c ≠ 0) : c = 44 ∨ c = 42 ∨ ∃ d, d ≤ 9 ∧ c = 48 + d ∧ (s = 3 → d = 0) := by
  rcases let4 c with h1 | h1 | ⟨d, hd, rfl⟩ | ⟨h1, h2, h3⟩
  · exact Or.inl h1
  · exact Or.inr (Or.inl h1)
  · refine Or.inr (Or.inr ⟨d, hd, rfl, fun e => ?_⟩)
    subst e
    by_cases e0 : d = 0
    · exact e0
    · exact absurd ((aftd 3 (by omega) d (by omega)).trans ((dig3 d (by omega)).trans (if_neg e0))) h
  · exact absurd (afto h1 h2 h3) h
theorem cls4 {c : Nat} (h : aft 4 c ≠ 0) : c = 44 ∨ c = 42 := by
  rcases let4 c with h1 | h1 | ⟨d, hd, rfl⟩ | ⟨h1, h2, h3⟩
  · exact Or.inl h1
  · exact Or.inr h1
  · exact absurd ((aftd 4 (by omega) d (by omega)).trans (dig4 d (by omega))) h
  · exact absurd (afto h1 h2 h3) h
theorem cls5 {c : Nat} (h : aft 5 c ≠ 0) : ∃ d, 1 ≤ d ∧ d ≤ 9 ∧ c = 48 + d := by
  rcases let4 c with rfl | rfl | ⟨d, hd, rfl⟩ | ⟨h1, h2, h3⟩
  · exact absurd (by decide) h
  · exact absurd (by decide) h
  · by_cases e0 : d = 0
    · exact absurd ((aftd 5 (by omega) d (by omega)).trans ((dig5 d (by omega)).trans (if_pos e0))) h
    · exact ⟨d, by omega, hd, rfl⟩
  · exact absurd (afto h1 h2 h3) h
theorem cls678 {s c : Nat} (hs : s = 6 ∨ s = 7 ∨ s = 8) (h : aft s c ≠ 0) : (c = 44 ∧ edb s = true) ∨ ∃ d, d ≤ 9 ∧ c = 48 + d ∧ (s = 8 → d ≤ 8) := by
  rcases let4 c with rfl | rfl | ⟨d, hd, rfl⟩ | ⟨h1, h2, h3⟩
  · refine Or.inl ⟨rfl, ?_⟩
    rw [aft44 s (by omega)] at h
    by_cases e : edb s = true
    · exact e
    · exact absurd (if_neg e) h
  · rcases hs with rfl | rfl | rfl <;> exact absurd (by decide) h
  · refine Or.inr ⟨d, hd, rfl, fun e => ?_⟩
    subst e
    by_cases e0 : d ≤ 8
    · exact e0
    · exact absurd ((aftd 8 (by omega) d (by omega)).trans ((dig8 d (by omega)).trans (if_neg e0))) h
  · exact absurd (afto h1 h2 h3) h
theorem cls9 {c : Nat} (h : aft 9 c ≠ 0) : c = 44 := by
  rcases let4 c with h1 | rfl | ⟨d, hd, rfl⟩ | ⟨h1, h2, h3⟩
  · exact h1
  · exact absurd (by decide) h
  · exact absurd ((aftd 9 (by omega) d (by omega)).trans (dig9 d (by omega))) h
  · exact absurd (afto h1 h2 h3) h
theorem ed_ne {s : Nat} (h : edb s = true) : s ≠ 0 := fun e => by
  subst e
  exact absurd h (by decide)
/-! a part from some place in it to its end -/
def PE (cd : Nat → Nat) (len : Nat) (P : cr_G) (k : Nat) (V Tm : Option Int32) : Prop := ∃ (e v T : Nat) (P' : cr_G), k ≤ e ∧ (e = len ∨ (e < len ∧ cd e = 44)) ∧ (∀ i, k ≤ i → i < e → cd i ≠ 44) ∧ V = some (nI v) ∧ Tm = some (nI T) ∧ v ≤ 30 ∧ 1 ≤ T ∧ T ≤ 99 ∧ (∀ n, s_X9_readText_17 (n + (e - k)) (nI k) P = s_X9_readText_17 n (nI e) P') ∧ kp P P' ∧ P' 0 9 = nI (stt cd e - 1) ∧ P' 0 10 = nI v ∧ P' 0 11 = nI T ∧ P' 0 12 = P 0 12 ∧ P' 0 13 = P 0 13 ∧ P' 6 = P 6 ∧ edb (stt cd e) = true
theorem PE_stop {cd : Nat → Nat} {len : Nat} {P : cr_G} {k s v T : Nat} {V Tm : Option Int32} (hk : k = len ∨ (k < len ∧ cd k = 44)) (he : edb (stt cd k) = true) (hs : stt cd k = s + 1) (h9 : P 0 9 = nI s) (h10 : P 0 10 = nI v) (h11 : P 0 11 = nI T) (hv : v ≤ 30) (h1 : 1 ≤ T) (hT : T ≤ 99) (hV : V = some (nI v)) (hTm : Tm = some (nI T)) : PE cd len P k V Tm :=
  ⟨k, v, T, P, Nat.le_refl k, hk, fun i a b => absurd b (by omega), hV, hTm, hv, h1, hT, fun n => by rw [Nat.sub_self, Nat.add_zero], kp_rf P, by rw [hs]; exact h9, h10, h11, rfl, rfl, rfl, he⟩
theorem PE_step {cd : Nat → Nat} {len : Nat} {P P1 : cr_G} {k : Nat} {V Tm V1 Tm1 : Option Int32} (hP : mx P cd len) (hk : k < len) (hc : cd k ≠ 44) (hg : s_X9_goes (nI (cd k)) P = some (true, P1)) (hkp : kp P P1) (h12 : P1 0 12 = P 0 12) (h13 : P1 0 13 = P 0 13) (h6 : P1 6 = P 6) (hV : V = V1) (hTm : Tm = Tm1) (h : PE cd len P1 (k + 1) V1 Tm1) : PE cd len P k V Tm := by
  obtain ⟨e, v, T, P', a1, a2, a3, a4, a5, a6, a7, a8, a9, b1, b2, b3, b4, b5, b6, b7, b8⟩ := h
  refine ⟨e, v, T, P', by omega, a2, fun i h1 h2 => ?_, hV.trans a4, hTm.trans a5, a6, a7, a8, fun n => ?_, kp_tr hkp b1, b2, b3, b4, b5.trans h12, b6.trans h13, b7.trans h6, b8⟩
  · by_cases e9 : i = k
    · subst e9; exact hc
    · exact a3 i (by omega) h2
  · rw [show n + (e - k) = (n + (e - (k + 1))) + 1 by omega, rt_s hP hk hg]
    exact a9 n
theorem nxt {cd : Nat → Nat} {len k : Nat} (H : edb (stt cd len) = true) (hk : k < len) : aft (stt cd k) (cd k) ≠ 0 := stt_ne (k := k + 1) (ed_ne H) hk
theorem L8 {A P : cr_G} {cd : Nat → Nat} {len k v T n : Nat} {V : Option Int32} (hA : ax A cd len) (H : edb (stt cd len) = true) (hk : k ≤ len) (hs : stt cd k = 8 + 1) (h9 : P 0 9 = nI 8) (h10 : P 0 10 = nI v) (h11 : P 0 11 = nI T) (hv : v ≤ 30) (h1 : 1 ≤ T) (hT : T ≤ 99) (hV : V = some (nI v)) : PE cd len P k V (s_X6_valueFrom_4 A (n + 1) (nI T) (nI k)) := by
  have hstop : k = len ∨ (k < len ∧ cd k = 44) := by
    by_cases e : k = len
    · exact Or.inl e
    · have hn := nxt H (show k < len by omega)
      rw [hs] at hn
      exact Or.inr ⟨by omega, cls9 hn⟩
  exact PE_stop hstop (by rw [hs]; decide) hs h9 h10 h11 hv h1 hT hV (V_stop hA hstop)
theorem L567 {A P : cr_G} {cd : Nat → Nat} {len k s v T n : Nat} {V : Option Int32} (hA : ax A cd len) (hP : mx P cd len) (H : edb (stt cd len) = true) (hk : k ≤ len) (hs : stt cd k = s + 1) (h567 : s = 5 ∨ s = 6 ∨ s = 7) (h9 : P 0 9 = nI s) (h10 : P 0 10 = nI v) (h11 : P 0 11 = nI T) (hv : v ≤ 30) (h1 : 1 ≤ T) (hT : T ≤ 9) (hV : V = some (nI v)) : PE cd len P k V (s_X6_valueFrom_4 A (n + 2) (nI T) (nI k)) := by
  by_cases e : k = len
  · subst e
    exact PE_stop (Or.inl rfl) H hs h9 h10 h11 hv h1 (by omega) hV (V_e hA)
  · have hn := nxt H (show k < len by omega)
    rw [hs] at hn
    rcases cls678 (by omega) hn with ⟨hc, he⟩ | ⟨d, hd, hc, hd8⟩
    · exact PE_stop (Or.inr ⟨by omega, hc⟩) (by rw [hs]; exact he) hs h9 h10 h11 hv h1 (by omega) hV (V_stop hA (Or.inr ⟨by omega, hc⟩))
    · have hsub := dg_sub d
      have hw : s_X9_within (nI (48 + d) - nI 48) (nI 0) (nI 9) = some true := by rw [hsub]; exact within_t (by omega) hd (by omega)
      have hg : s_X9_goes (nI (cd k)) P = s_X9_more (nI d) P := by
        rw [hc]
        rcases h567 with rfl | rfl | rfl
        · exact (goes_s5 hw h9).trans ((if_pos rfl).trans (by rw [hsub]))
        · exact (goes_s6 hw h9).trans ((if_pos rfl).trans (by rw [hsub]))
        · have hw8 : s_X9_within (nI (48 + d) - nI 48) (nI 0) (nI 8) = some true := by rw [hsub]; exact within_t (by omega) (hd8 rfl) (by omega)
          exact (goes_s7 hw hw8 h9).trans ((if_pos rfl).trans (by rw [hsub]))
      rw [qm_more, h11, pk_mul, nI_add] at hg
      have hs' : stt cd (k + 1) = 8 + 1 := by
        show aft (stt cd k) (cd k) = _
        rw [hs, hc, aftd (s + 1) (by omega) d (by omega)]
        rcases h567 with rfl | rfl | rfl
        · exact dig6 d (by omega)
        · exact dig7 d (by omega)
        · exact (dig8 d (by omega)).trans (if_pos (hd8 rfl))
      refine PE_step hP (by omega) (by omega) hg (kp_pt (kp_pt (kp_rf P) _ (by omega)) _ (by omega)) (by simp (disch := omega) only [pt_o]) (by simp (disch := omega) only [pt_o]) (by rw [pt_6, pt_6]) rfl (V_d hA (by omega) hc hd) (L8 hA H (by omega) hs' (pt_i _ _ _) (by simp (disch := omega) only [pt_o, h10]) (by simp (disch := omega) only [pt_o, pt_i]) hv (by omega) (by omega) hV)
theorem L4 {A P : cr_G} {cd : Nat → Nat} {len k v n : Nat} {V : Option Int32} (hA : ax A cd len) (hP : mx P cd len) (H : edb (stt cd len) = true) (hk : k ≤ len) (hs : stt cd k = 4 + 1) (h9 : P 0 9 = nI 4) (h10 : P 0 10 = nI v) (hv : v ≤ 30) (hV : V = some (nI v)) : PE cd len P k V (s_X6_valueFrom_4 A (n + 3) (nI 0) (nI k)) := by
  by_cases e : k = len
  · subst e
    rw [hs] at H
    exact absurd H (by decide)
  · have hn := nxt H (show k < len by omega)
    rw [hs] at hn
    obtain ⟨d, h1, hd, hc⟩ := cls5 hn
    have hsub := dg_sub d
    have hw : s_X9_within (nI (48 + d) - nI 48) (nI 0) (nI 9) = some true := by rw [hsub]; exact within_t (by omega) hd (by omega)
    have hg : s_X9_goes (nI (cd k)) P = s_X9_often (nI d) P := by
      rw [hc]
      exact (goes_s4 hw h9).trans (by rw [hsub])
    rw [qm_often_d P h1 hd] at hg
    have hs' : stt cd (k + 1) = dig 5 d := by
      show aft (stt cd k) (cd k) = _
      rw [hs, hc, aftd (4 + 1) (by omega) d (by omega)]
    have hb := dig5b d (by omega) h1
    have e0 : 10 * 0 + d = d := by omega
    have hV1 := V_d (x := 0) (n := n + 2) hA (by omega) hc hd
    rw [e0] at hV1
    have hkp : kp P (cr_pt (cr_pt P 0 11 (nI d)) 0 9 (nI (dig 5 d - 1))) := kp_pt (kp_pt (kp_rf P) _ (by omega)) _ (by omega)
    refine PE_step hP (by omega) (by omega) hg hkp (by simp (disch := omega) only [pt_o]) (by simp (disch := omega) only [pt_o]) (by rw [pt_6, pt_6]) rfl hV1 ?_
    by_cases e8 : dig 5 d = 9
    · rw [e8] at hs' hkp ⊢
      exact L8 hA H (by omega) hs' (pt_i _ _ _) (by simp (disch := omega) only [pt_o, h10]) (by simp (disch := omega) only [pt_o, pt_i]) hv (by omega) (by omega) hV
    · exact L567 (s := dig 5 d - 1) hA (mx_k hP hkp) H (by omega) (by omega) (by omega) (pt_i _ _ _) (by simp (disch := omega) only [pt_o, h10]) (by simp (disch := omega) only [pt_o, pt_i]) hv h1 hd hV
theorem L3s {A P : cr_G} {cd : Nat → Nat} {len k s v n m : Nat} (hA : ax A cd len) (hP : mx P cd len) (H : edb (stt cd len) = true) (hk : k < len) (hs : stt cd k = s + 1) (h123 : s = 1 ∨ s = 2 ∨ s = 3) (hc : cd k = 42) (h9 : P 0 9 = nI s) (h10 : P 0 10 = nI v) (hv : v ≤ 30) : PE cd len P k (s_X6_valueFrom_4 A (n + 1) (nI v) (nI k)) (s_X6_timesFrom_2 A (m + 1) (nI k)) := by
  have hw := wi09 42 (by omega) (by omega)
  have hg : s_X9_goes (nI (cd k)) P = s_X9_ends (nI 42) P := by
    rw [hc]
    rcases h123 with rfl | rfl | rfl
    · exact (goes_s1 hw h9).trans (if_neg (by decide))
    · exact (goes_s2 hw h9).trans (if_neg (v48 42 (by omega) (by omega)))
    · exact goes_s3 hw h9
  rw [qm_ends_s] at hg
  have hs' : stt cd (k + 1) = 4 + 1 := by
    show aft (stt cd k) (cd k) = _
    rw [hs, hc, aft42 (s + 1) (by omega), if_pos (by omega)]
  have hkp : kp P (cr_pt P 0 9 (nI 4)) := kp_pt (kp_rf P) _ (by omega)
  exact PE_step hP hk (by omega) hg hkp (by simp (disch := omega) only [pt_o]) (by simp (disch := omega) only [pt_o]) (by rw [pt_6]) rfl (T_m hA hk hc) (L4 (n := 1197) hA (mx_k hP hkp) H (by omega) hs' (pt_i _ _ _) (by simp (disch := omega) only [pt_o, h10]) hv (V_x hA hk (by omega)))
theorem L3 {A P : cr_G} {cd : Nat → Nat} {len k v n m : Nat} (hA : ax A cd len) (hP : mx P cd len) (H : edb (stt cd len) = true) (hk : k ≤ len) (hs : stt cd k = 3 + 1) (h9 : P 0 9 = nI 3) (h10 : P 0 10 = nI v) (h11 : P 0 11 = nI 1) (hv : v ≤ 30) : PE cd len P k (s_X6_valueFrom_4 A (n + 1) (nI v) (nI k)) (s_X6_timesFrom_2 A (m + 1) (nI k)) := by
  by_cases e : k = len
  · exact PE_stop (Or.inl e) (by rw [hs]; decide) hs h9 h10 h11 hv (by omega) (by omega) (V_stop hA (Or.inl e)) (T_stop hA (Or.inl e))
  · have hn := nxt H (show k < len by omega)
    rw [hs] at hn
    rcases cls4 hn with hc | hc
    · have hst : k = len ∨ (k < len ∧ cd k = 44) := Or.inr ⟨by omega, hc⟩
      exact PE_stop hst (by rw [hs]; decide) hs h9 h10 h11 hv (by omega) (by omega) (V_stop hA hst) (T_stop hA hst)
    · exact L3s hA hP H (by omega) hs (by omega) hc h9 h10 hv
theorem L12 {A P : cr_G} {cd : Nat → Nat} {len k s v n m : Nat} (hA : ax A cd len) (hP : mx P cd len) (H : edb (stt cd len) = true) (hk : k ≤ len) (hs : stt cd k = s + 1) (h12 : (s = 1 ∧ v ≤ 2) ∨ (s = 2 ∧ v = 3)) (h9 : P 0 9 = nI s) (h10 : P 0 10 = nI v) (h11 : P 0 11 = nI 1) : PE cd len P k (s_X6_valueFrom_4 A (n + 2) (nI v) (nI k)) (s_X6_timesFrom_2 A (m + 2) (nI k)) := by
  have hed : edb (stt cd k) = true := by
    rw [hs]
    exact decide_eq_true (by omega)
  by_cases e : k = len
  · exact PE_stop (Or.inl e) hed hs h9 h10 h11 (by omega) (by omega) (by omega) (V_stop hA (Or.inl e)) (T_stop hA (Or.inl e))
  · have hn := nxt H (show k < len by omega)
    rw [hs] at hn
    rcases cls23 (by omega) hn with hc | hc | ⟨d, hd, hc, hd0⟩
    · have hst : k = len ∨ (k < len ∧ cd k = 44) := Or.inr ⟨by omega, hc⟩
      exact PE_stop hst hed hs h9 h10 h11 (by omega) (by omega) (by omega) (V_stop hA hst) (T_stop hA hst)
    · exact L3s hA hP H (by omega) hs (by omega) hc h9 h10 (by omega)
    · have hsub := dg_sub d
      have hw : s_X9_within (nI (48 + d) - nI 48) (nI 0) (nI 9) = some true := by rw [hsub]; exact within_t (by omega) hd (by omega)
      have hg : s_X9_goes (nI (cd k)) P = s_X9_second (nI d) P := by
        rw [hc]
        rcases h12 with ⟨rfl, -⟩ | ⟨rfl, -⟩
        · exact (goes_s1 hw h9).trans ((if_pos rfl).trans (by rw [hsub]))
        · have hd0 := hd0 rfl
          subst hd0
          exact (goes_s2 hw h9).trans ((if_pos (by rw [hsub])).trans (by rw [hsub]))
      have hb30 : 10 * v + d ≤ 30 := by
        rcases h12 with ⟨_, e2⟩ | ⟨e1, e2⟩
        · omega
        · have hd9 := hd0 (by omega)
          omega
      rw [qm_second, h10, pk_mul, nI_add] at hg
      have hs' : stt cd (k + 1) = 3 + 1 := by
        show aft (stt cd k) (cd k) = _
        rw [hs, hc, aftd (s + 1) (by omega) d (by omega)]
        rcases h12 with ⟨rfl, -⟩ | ⟨rfl, -⟩
        · exact dig2 d (by omega)
        · exact (dig3 d (by omega)).trans (if_pos (hd0 rfl))
      have hkp : kp P (cr_pt (cr_pt P 0 10 (nI (10 * v + d))) 0 9 (nI 3)) := kp_pt (kp_pt (kp_rf P) _ (by omega)) _ (by omega)
      exact PE_step hP (by omega) (by omega) hg hkp (by simp (disch := omega) only [pt_o]) (by simp (disch := omega) only [pt_o]) (by rw [pt_6, pt_6]) (V_d hA (by omega) hc hd) (T_s hA (by omega) (by omega) (by omega)) (L3 hA (mx_k hP hkp) H (by omega) hs' (pt_i _ _ _) (by simp (disch := omega) only [pt_o, pt_i]) (by simp (disch := omega) only [pt_o, h11]) hb30)
theorem L0 {A P : cr_G} {cd : Nat → Nat} {len b : Nat} (hA : ax A cd len) (hP : mx P cd len) (H : edb (stt cd len) = true) (hb : b ≤ len) (hs : stt cd b = 1) (h9 : P 0 9 = nI 0) : b < len ∧ cd b ≠ 44 ∧ ∃ P1 : cr_G, s_X9_goes (nI (cd b)) P = some (true, P1) ∧ kp P P1 ∧ P1 0 12 = P 0 12 ∧ P1 0 13 = P 0 13 ∧ P1 6 = P 6 ∧ PE cd len P1 (b + 1) (s_X6_valueFrom A (nI b)) (s_X6_timesFrom A (nI b)) := by
  have hb' : b < len := by
    by_cases e : b = len
    · subst e
      rw [hs] at H
      exact absurd H (by decide)
    · omega
  have hn := nxt H hb'
  rw [hs] at hn
  obtain ⟨d, hd, hc⟩ := cls1 hn
  have hsub := dg_sub d
  have hw : s_X9_within (nI (48 + d) - nI 48) (nI 0) (nI 9) = some true := by rw [hsub]; exact within_t (by omega) hd (by omega)
  have hg : s_X9_goes (nI (cd b)) P = s_X9_first (nI d) P := by
    rw [hc]
    exact (goes_s0 hw h9).trans (by rw [hsub])
  rw [qm_first_d P hd] at hg
  have hkp : kp P (cr_pt (cr_pt (cr_pt P 0 10 (nI d)) 0 11 (nI 1)) 0 9 (nI (dig 1 d - 1))) := kp_pt (kp_pt (kp_pt (kp_rf P) _ (by omega)) _ (by omega)) _ (by omega)
  have hs' : stt cd (b + 1) = dig 1 d := by
    show aft (stt cd b) (cd b) = _
    rw [hs, hc, aftd 1 (by omega) d (by omega)]
  have hbd := dig1b d (by omega)
  have hm := dig1 d (by omega)
  have e0 : 10 * 0 + d = d := by omega
  have hV := V_d (x := 0) (n := 1199) hA hb' hc hd
  rw [e0] at hV
  have hV : s_X6_valueFrom A (nI b) = s_X6_valueFrom_4 A (1197 + 2) (nI d) (nI (b + 1)) := hV
  have hT : s_X6_timesFrom A (nI b) = s_X6_timesFrom_2 A (1197 + 2) (nI (b + 1)) := T_s (n := 1199) hA hb' (by omega) (by omega)
  refine ⟨hb', by omega, _, hg, hkp, by simp (disch := omega) only [pt_o], by simp (disch := omega) only [pt_o], by rw [pt_6, pt_6, pt_6], ?_⟩
  rw [hV, hT]
  have q10 : cr_pt (cr_pt (cr_pt P 0 10 (nI d)) 0 11 (nI 1)) 0 9 (nI (dig 1 d - 1)) 0 10 = nI d := by simp (disch := omega) only [pt_o, pt_i]
  have q11 : cr_pt (cr_pt (cr_pt P 0 10 (nI d)) 0 11 (nI 1)) 0 9 (nI (dig 1 d - 1)) 0 11 = nI 1 := by simp (disch := omega) only [pt_o, pt_i]
  by_cases e3 : dig 1 d = 4
  · have q9 : cr_pt (cr_pt (cr_pt P 0 10 (nI d)) 0 11 (nI 1)) 0 9 (nI (dig 1 d - 1)) 0 9 = nI 3 := by rw [pt_i, e3]
    exact L3 (n := 1198) (m := 1198) hA (mx_k hP hkp) H (by omega) (by omega) q9 q10 q11 (by omega)
  · have hd3 : (dig 1 d - 1 = 1 ∧ d ≤ 2) ∨ (dig 1 d - 1 = 2 ∧ d = 3) := by
      by_cases f0 : d = 0
      · rw [if_pos f0] at hm; omega
      · rw [if_neg f0] at hm
        by_cases f3 : d ≤ 3
        · rw [if_pos f3] at hm
          by_cases f4 : d = 3
          · rw [if_pos f4] at hm; omega
          · rw [if_neg f4] at hm; omega
        · rw [if_neg f3] at hm; omega
    exact L12 (s := dig 1 d - 1) hA (mx_k hP hkp) H (by omega) (by omega) hd3 (pt_i _ _ _) q10 q11
