/-! ### texts: all parts of a complete row -/
theorem fill_lo {h : Nat → Int32} {a d q : Nat} {v : Int32} (hq : q < a) : fill h a d v q = h q := by
  simp only [fill]
  rw [if_neg (by omega)]
theorem fill_in {h : Nat → Int32} {a d q : Nat} {v : Int32} (h1 : a ≤ q) (h2 : q < a + d) (h3 : q < 48) : fill h a d v q = v := by
  simp only [fill]
  rw [if_pos ⟨h1, h2, h3⟩]
theorem nc_s {A : cr_G} {cd : Nat → Nat} {len k n : Nat} {X : Int32} (hA : ax A cd len) (hk : k < len) (h0 : 0 < k) (hc : cd (k - 1) ≠ 44) : s_X6_numberCount_4 A (n + 1) X (nI k) = s_X6_numberCount_4 A n X (nI (k + 1)) := by
  obtain ⟨hl, h2, h3⟩ := hA
  have hck : ¬ len ≤ k := by omega
  have hk0 : ¬ k = 0 := by omega
  have h4 := (h3 (k - 1) (by omega)).1
  have h5 := (h3 (k - 1) (by omega)).2
  simp (disch := omega) only [s_X6_numberCount_4, ↓pm_bd, pm_gd, pm_lit, pm_S, h2, h4, pm_C, hck, hk0, hc, ↓reduceIte]
theorem nc_b {A : cr_G} {cd : Nat → Nat} {len k n a T : Nat} (hA : ax A cd len) (hk : k < len) (hc : k = 0 ∨ (0 < k ∧ cd (k - 1) = 44)) (hT : s_X6_timesFrom A (nI k) = some (nI T)) : s_X6_numberCount_4 A (n + 1) (nI a) (nI k) = s_X6_numberCount_4 A n (nI (a + T)) (nI (k + 1)) := by
  obtain ⟨hl, h2, h3⟩ := hA
  have hck : ¬ len ≤ k := by omega
  rcases hc with rfl | ⟨hk0, hc⟩
  · simp (disch := omega) only [s_X6_numberCount_4, s_X6_numberCount_29, ↓pm_bd, pm_gd, pm_lit, pm_S, h2, pm_C, hck, hT, pm_cl, ↓reduceIte]
  · have hk0' : ¬ k = 0 := by omega
    have h4 := (h3 (k - 1) (by omega)).1
    rw [hc] at h4
    simp (disch := omega) only [s_X6_numberCount_4, s_X6_numberCount_29, ↓pm_bd, pm_gd, pm_lit, pm_S, h2, h4, pm_C, hck, hk0', hT, pm_cl, ↓reduceIte]
theorem nc_e {A : cr_G} {cd : Nat → Nat} {len n : Nat} {X : Int32} (hA : ax A cd len) : s_X6_numberCount_4 A (n + 1) X (nI len) = some X := by
  obtain ⟨hl, h2, h3⟩ := hA
  simp (disch := omega) only [s_X6_numberCount_4, h2, pm_C, Nat.le_refl, ↓reduceIte]
theorem nc_skip {A : cr_G} {cd : Nat → Nat} {len j : Nat} {X : Int32} (hA : ax A cd len) (hj : j ≤ len) : ∀ (d i n : Nat), j - i = d → i ≤ j → (∀ t, i ≤ t → t < j → 0 < t ∧ cd (t - 1) ≠ 44) → s_X6_numberCount_4 A (n + d) X (nI i) = s_X6_numberCount_4 A n X (nI j) := by
  intro d
  induction d with
  | zero =>
    intro i n hd hi h
    obtain rfl : i = j := by omega
    rfl
  | succ d ih =>
    intro i n hd hi h
    obtain ⟨h0, hc⟩ := h i (Nat.le_refl i) (by omega)
    rw [show n + (d + 1) = (n + d) + 1 by omega, nc_s hA (by omega) h0 hc]
    exact ih (i + 1) n (by omega) (by omega) (fun t h1 h2 => h t (by omega) h2)
theorem wt_s {S : cr_S} {cd : Nat → Nat} {len k n : Nat} (hA : ax (S.1 8) cd len) (hk : k < len) (h0 : 0 < k) (hc : cd (k - 1) ≠ 44) : s_X6_writeTo_7 (n + 1) (nI k) S = s_X6_writeTo_7 n (nI (k + 1)) S := by
  obtain ⟨hl, h2, h3⟩ := hA
  have hck : ¬ len ≤ k := by omega
  have hk0 : ¬ k = 0 := by omega
  have h4 := (h3 (k - 1) (by omega)).1
  have h5 := (h3 (k - 1) (by omega)).2
  simp (disch := omega) only [s_X6_writeTo_7, ↓pm_bd, pm_gd, pm_lit, pm_S, h2, h4, pm_C, hck, hk0, hc, ↓reduceIte]
theorem wt_b {S : cr_S} {cd : Nat → Nat} {len k n : Nat} (hA : ax (S.1 8) cd len) (hk : k < len) (hc : k = 0 ∨ (0 < k ∧ cd (k - 1) = 44)) : s_X6_writeTo_7 (n + 1) (nI k) S = s_X6_writeTo_32 (fun x2a Sa => s_X6_writeTo_7 n x2a Sa) (nI k) S := by
  obtain ⟨hl, h2, h3⟩ := hA
  have hck : ¬ len ≤ k := by omega
  rcases hc with rfl | ⟨hk0, hc⟩
  · simp (disch := omega) only [s_X6_writeTo_7, ↓pm_bd, pm_gd, pm_lit, pm_S, h2, pm_C, hck, ↓reduceIte]
  · have hk0' : ¬ k = 0 := by omega
    have h4 := (h3 (k - 1) (by omega)).1
    rw [hc] at h4
    simp (disch := omega) only [s_X6_writeTo_7, ↓pm_bd, pm_gd, pm_lit, pm_S, h2, h4, pm_C, hck, hk0', ↓reduceIte]
theorem wt_e {S : cr_S} {cd : Nat → Nat} {len n : Nat} (hA : ax (S.1 8) cd len) : s_X6_writeTo_7 (n + 1) (nI len) S = some S := by
  obtain ⟨hl, h2, h3⟩ := hA
  simp (disch := omega) only [s_X6_writeTo_7, h2, pm_C, Nat.le_refl, ↓reduceIte]
theorem wt_skip {S : cr_S} {cd : Nat → Nat} {len j : Nat} (hA : ax (S.1 8) cd len) (hj : j ≤ len) : ∀ (d i n : Nat), j - i = d → i ≤ j → (∀ t, i ≤ t → t < j → 0 < t ∧ cd (t - 1) ≠ 44) → s_X6_writeTo_7 (n + d) (nI i) S = s_X6_writeTo_7 n (nI j) S := by
  intro d
  induction d with
  | zero =>
    intro i n hd hi h
    obtain rfl : i = j := by omega
    rfl
  | succ d ih =>
    intro i n hd hi h
    obtain ⟨h0, hc⟩ := h i (Nat.le_refl i) (by omega)
    rw [show n + (d + 1) = (n + d) + 1 by omega, wt_s hA (by omega) h0 hc]
    exact ih (i + 1) n (by omega) (by omega) (fun t h1 h2 => h t (by omega) h2)
/-- the class's farm after so many winds more -/
def wnd (G G' : cr_G) (c d : Nat) (v : Int32) : Prop := G' 11 1 = nI (c + d) ∧ (∀ q, q < c → G' 12 q = G 12 q) ∧ (∀ q, c ≤ q → q < c + d → G' 12 q = v) ∧ ∀ j, j ≠ 11 → j ≠ 12 → G' j = G j
theorem qc_addN (k7 : Int32 → cr_S → Option cr_S) (b T : Nat) (v : Int32) (hT : T ≤ 1000) : ∀ (d i n c : Nat) (S : cr_S), T - i = d → d < n → i ≤ T → S.1 0 11 1 = nI c → c + d ≤ 48 → ∃ G' : cr_G, s_X6_writeTo_48 k7 n (nI b) v (nI T) (nI i) S = k7 (nI (b + 1)) (cr_us S 0 G') ∧ wnd (S.1 0) G' c d v := by
  intro d
  induction d with
  | zero =>
    intro i n c S hd hn hi h11 hc
    obtain ⟨n, rfl⟩ : ∃ m, n = m + 1 := ⟨n - 1, by omega⟩
    obtain rfl : i = T := by omega
    refine ⟨S.1 0, ?_, h11, fun _ _ => rfl, fun q h1 h2 => absurd h2 (by omega), fun _ _ _ => rfl⟩
    rw [cr_us_self]
    simp (disch := omega) only [s_X6_writeTo_48, ↓pm_bd, pm_lit, pm_S, pm_C, Nat.le_refl, ↓reduceIte]
  | succ d ih =>
    intro i n c S hd hn hi h11 hc
    obtain ⟨n, rfl⟩ : ∃ m, n = m + 1 := ⟨n - 1, by omega⟩
    have hci : ¬ T ≤ i := by omega
    have hc48 : ¬ 48 ≤ c := by omega
    have ha : s_X7_add v (S.1 0) = some (cr_pt (cr_pt (S.1 0) 12 c v) 11 1 (nI (c + 1))) := by
      simp (disch := omega) only [s_X7_add, ↓pm_bd, pm_gd, pm_lit, pm_S, h11, pm_C, hc48, pm_ptne, ↓reduceIte]
    obtain ⟨G', e1, e2, e3, e4, e5⟩ := ih (i + 1) n (c + 1) (cr_us S 0 (cr_pt (cr_pt (S.1 0) 12 c v) 11 1 (nI (c + 1)))) (by omega) (by omega) (by omega) (by rw [cr_us_eq, pm_pt, pm_u]) (by omega)
    rw [cr_us_eq] at e3 e5
    refine ⟨G', ?_, e2.trans (congrArg nI (by omega)), fun q hq => ?_, fun q h1 h2 => ?_, fun j h1 h2 => ?_⟩
    · simp (disch := omega) only [s_X6_writeTo_48, ↓pm_bd, pm_lit, pm_S, pm_C, hci, ha, pm_cl, ↓reduceIte]
      rw [e1, cr_us_us]
    · rw [e3 q (by omega), pm_ptne _ _ _ (by omega), pm_pt, pm_un _ _ (by omega)]
    · by_cases e9 : q = c
      · subst e9
        rw [e3 q (by omega), pm_ptne _ _ _ (by omega), pm_pt, pm_u]
      · exact e4 q (by omega) (by omega)
    · rw [e5 j h1 h2, pm_ptne _ _ _ h1, pm_ptne _ _ _ h2]
theorem wt_part {S : cr_S} {cd : Nat → Nat} {len b n a v T : Nat} (hA : ax (S.1 8) cd len) (hb : b < len) (hc : b = 0 ∨ (0 < b ∧ cd (b - 1) = 44)) (hV : s_X6_valueFrom (S.1 8) (nI b) = some (nI v)) (hT : s_X6_timesFrom (S.1 8) (nI b) = some (nI T)) (hT9 : T ≤ 99) (h11 : S.1 0 11 1 = nI a) (ha : a + T ≤ 48) : ∃ G' : cr_G, s_X6_writeTo_7 (n + 1) (nI b) S = s_X6_writeTo_7 n (nI (b + 1)) (cr_us S 0 G') ∧ wnd (S.1 0) G' a T (nI v) := by
  obtain ⟨G', e1, e2⟩ := qc_addN (fun x2a Sa => s_X6_writeTo_7 n x2a Sa) b T (nI v) (by omega) T 0 1200 a S rfl (by omega) (by omega) h11 ha
  refine ⟨G', ?_, e2⟩
  rw [wt_b hA hb hc]
  simp only [s_X6_writeTo_32, pm_lit, hV, hT, pm_cl]
  exact e1
/-- what is read from a part's beginning to the end of the text -/
def RD (A : cr_G) (cd : Nat → Nat) (len b a : Nat) (P : cr_G) : Prop := ∃ (a' : Nat) (P' : cr_G), a ≤ a' ∧ a' ≤ 100 * len ∧ (∀ n, len - b < n → s_X9_readText_17 n (nI b) P = some (nI len, P')) ∧ kp P P' ∧ P' 0 13 = nI 1 ∧ P' 0 12 = nI a' ∧ (∀ n, len - b < n → s_X6_numberCount_4 A n (nI a) (nI b) = some (nI a')) ∧ (∀ q, q < a → P' 6 q = P 6 q) ∧ (∀ q, a ≤ q → q < a' → q < 48 → bd (P' 6 q) 30) ∧ (a' ≤ 48 → ∀ (S : cr_S), S.1 8 = A → S.1 0 11 1 = nI a → ∀ n, len - b < n → ∃ G' : cr_G, s_X6_writeTo_7 n (nI b) S = some (cr_us S 0 G') ∧ G' 11 1 = nI a' ∧ (∀ q, q < a → G' 12 q = S.1 0 12 q) ∧ (∀ q, a ≤ q → q < a' → G' 12 q = P' 6 q) ∧ ∀ j, j ≠ 11 → j ≠ 12 → G' j = S.1 0 j)
theorem q_parts {A : cr_G} {cd : Nat → Nat} {len : Nat} (hA : ax A cd len) (H : edb (stt cd len) = true) : ∀ (d b a : Nat) (P : cr_G), len - b ≤ d → b ≤ len → stt cd b = 1 → (b = 0 ∨ (0 < b ∧ cd (b - 1) = 44)) → mx P cd len → P 0 9 = nI 0 → P 0 12 = nI a → a ≤ 100 * b → RD A cd len b a P := by
  intro d
  induction d with
  | zero =>
    intro b a P hd hb hs hc hP h9 h12 ha
    obtain ⟨h1, -⟩ := L0 hA hP H hb hs h9
    omega
  | succ d ih =>
    intro b a P hd hb hs hc hP h9 h12 ha
    obtain ⟨hbl, hcb, P1, hg, hkp, g12, g13, g6, e, v, T, P2, a1, a2, a3, hV, hT, hv, hT1, hT9, hr, hkp2, b1, b2, b3, b4, b5, b6, hed⟩ := L0 hA hP H hb hs h9
    have hl := hA.1
    have h12' : P2 0 12 = nI a := b4.trans (g12.trans h12)
    have hse := stt_lt hA e (by omega)
    have hse0 := ed_ne hed
    have hs9 : stt cd e = (stt cd e - 1) + 1 := by omega
    have hskip : ∀ t, b + 1 ≤ t → t < e + 1 → 0 < t ∧ cd (t - 1) ≠ 44 := fun t h1 h2 => by
      refine ⟨by omega, ?_⟩
      by_cases e9 : t - 1 = b
      · rw [e9]; exact hcb
      · exact a3 (t - 1) (by omega) (by omega)
    have hread : ∀ n, s_X9_readText_17 (n + (e - (b + 1)) + 1) (nI b) P = s_X9_readText_17 n (nI e) P2 := fun n => by
      rw [rt_s hP hbl hg]
      exact hr n
    have hkpb := kp_tr hkp hkp2
    have hP2 := mx_k hP hkpb
    have h6 : P2 6 = P 6 := b6.trans g6
    by_cases ee : e = len
    · subst ee
      have hn045 : ¬ (stt cd e - 1 = 0 ∨ stt cd e - 1 = 4 ∨ stt cd e - 1 = 5) := fun h => by
        have h5 : stt cd e = 1 ∨ stt cd e = 5 ∨ stt cd e = 6 := by omega
        rcases h5 with h5 | h5 | h5 <;> (rw [h5] at hed; exact absurd hed (by decide))
      refine ⟨a + T, clw P2 a T, by omega, by omega, fun n hn => ?_, kp_tr hkpb (clw_k P2 a T), clw_13 P2 a T, clw_12 P2 a T, fun n hn => ?_, fun q hq => ?_, fun q h1 h2 h3 => ?_, fun h48 S hS h11 n hn => ?_⟩
      · have h := hread (n - (e - b) - 1 + 1)
        rw [show n - (e - b) - 1 + 1 + (e - (b + 1)) + 1 = n by omega, rt_e1 hP2 b1 (by omega) hn045 (by omega) (by omega) b3 h12'] at h
        exact h
      · have h := nc_skip (X := nI (a + T)) hA (Nat.le_refl e) (e - (b + 1)) (b + 1) (n - (e - b) - 1 + 1) rfl (by omega) (fun t h1 h2 => hskip t h1 (by omega))
        rw [nc_e hA] at h
        have h2 := nc_b (n := n - (e - b) - 1 + 1 + (e - (b + 1))) (a := a) hA hbl hc hT
        rw [show n - (e - b) - 1 + 1 + (e - (b + 1)) + 1 = n by omega] at h2
        exact h2.trans h
      · rw [clw_6, fill_lo hq, h6]
      · rw [clw_6, fill_in h1 h2 h3, b2]
        exact ⟨v, hv, rfl⟩
      · subst hS
        obtain ⟨G', w1, w2, w3, w4, w5⟩ := wt_part (n := n - (e - b) - 1 + 1 + (e - (b + 1))) hA hbl hc hV hT hT9 h11 h48
        have hA2 : ax ((cr_us S 0 G').1 8) cd e := by rw [cr_us_ne _ _ (by omega)]; exact hA
        have h := wt_skip hA2 (Nat.le_refl e) (e - (b + 1)) (b + 1) (n - (e - b) - 1 + 1) rfl (by omega) (fun t h1 h2 => hskip t h1 (by omega))
        rw [wt_e hA2] at h
        rw [show n - (e - b) - 1 + 1 + (e - (b + 1)) + 1 = n by omega] at w1
        refine ⟨G', w1.trans h, w2, w3, fun q h1 h2 => ?_, w5⟩
        rw [w4 q h1 h2, clw_6, fill_in h1 h2 (by omega), b2]
    · obtain ⟨hel, hce⟩ : e < len ∧ cd e = 44 := by
        rcases a2 with h | h
        · exact absurd h ee
        · exact h
      have hge : s_X9_goes (nI (cd e)) P2 = some (true, clo P2 a T) := by
        have hw := wi09 44 (by omega) (by omega)
        have hw8 := wi08 44 (by omega) (by omega)
        have hend := qm_ends_c (P := P2) (T := T) (a := a) (by omega) (by omega) b3 h12'
        rw [hce]
        generalize hgs : stt cd e = s1 at hed b1 hse hse0
        have hcase : s1 = 2 ∨ s1 = 3 ∨ s1 = 4 ∨ s1 = 7 ∨ s1 = 8 ∨ s1 = 9 := of_decide_eq_true hed
        rcases hcase with rfl | rfl | rfl | rfl | rfl | rfl
        · exact (goes_s1 hw b1).trans ((if_neg (by decide)).trans hend)
        · exact (goes_s2 hw b1).trans ((if_neg (v48 44 (by omega) (by omega))).trans hend)
        · exact (goes_s3 hw b1).trans hend
        · exact (goes_s6 hw b1).trans ((if_neg (by decide)).trans ((if_pos rfl).trans hend))
        · exact (goes_s7 hw hw8 b1).trans ((if_neg (by decide)).trans ((if_pos rfl).trans hend))
        · exact (goes_s8 hw b1).trans ((if_pos rfl).trans hend)
      have hs1 : stt cd (e + 1) = 1 := by
        show aft (stt cd e) (cd e) = 1
        rw [hce, aft44 _ hse, if_pos hed]
      obtain ⟨a', P', c1, c2, c3, c4, c5, c6, c7, c8, c9, c10⟩ := ih (e + 1) (a + T) (clo P2 a T) (by omega) (by omega) hs1 (Or.inr ⟨by omega, by rw [Nat.add_sub_cancel]; exact hce⟩) (mx_k hP2 (clo_k a T)) (clo_9 a T) (clo_12 a T) (by omega)
      refine ⟨a', P', by omega, c2, fun n hn => ?_, kp_tr (kp_tr hkpb (clo_k a T)) c4, c5, c6, fun n hn => ?_, fun q hq => ?_, fun q h1 h2 h3 => ?_, fun h48 S hS h11 n hn => ?_⟩
      · have h := hread (n - (e - b) - 1 + 1)
        rw [show n - (e - b) - 1 + 1 + (e - (b + 1)) + 1 = n by omega, rt_s hP2 hel hge, c3 _ (by omega)] at h
        exact h
      · have h := nc_skip (X := nI (a + T)) hA (show e + 1 ≤ len by omega) (e + 1 - (b + 1)) (b + 1) (n - (e - b) - 1) rfl (by omega) hskip
        rw [c7 _ (by omega)] at h
        have h2 := nc_b (n := n - (e - b) - 1 + (e + 1 - (b + 1))) (a := a) hA hbl hc hT
        rw [show n - (e - b) - 1 + (e + 1 - (b + 1)) + 1 = n by omega] at h2
        exact h2.trans h
      · rw [c8 q (by omega), clo_6, fill_lo hq, h6]
      · by_cases e9 : q < a + T
        · rw [c8 q e9, clo_6, fill_in h1 e9 h3, b2]
          exact ⟨v, hv, rfl⟩
        · exact c9 q (by omega) h2 h3
      · subst hS
        obtain ⟨G1, w1, w2, w3, w4, w5⟩ := wt_part (n := n - (e - b) - 1 + (e + 1 - (b + 1))) hA hbl hc hV hT hT9 h11 (by omega)
        have hA2 : ax ((cr_us S 0 G1).1 8) cd len := by rw [cr_us_ne _ _ (by omega)]; exact hA
        have h := wt_skip hA2 (show e + 1 ≤ len by omega) (e + 1 - (b + 1)) (b + 1) (n - (e - b) - 1) rfl (by omega) hskip
        rw [show n - (e - b) - 1 + (e + 1 - (b + 1)) + 1 = n by omega] at w1
        obtain ⟨G', x1, x2, x3, x4, x5⟩ := c10 h48 (cr_us S 0 G1) (cr_us_ne _ _ (by omega)) (by rw [cr_us_eq]; exact w2) (n - (e - b) - 1) (by omega)
        rw [cr_us_eq] at x3 x5
        rw [cr_us_us] at x1
        refine ⟨G', w1.trans (h.trans x1), x2, fun q hq => (x3 q (by omega)).trans (w3 q hq), fun q h1 h2 => ?_, fun j h1 h2 => (x5 j h1 h2).trans (w5 j h1 h2)⟩
        by_cases e9 : q < a + T
        · rw [x3 q e9, w4 q h1 e9, c8 q e9, clo_6, fill_in h1 e9 (by omega), b2]
        · exact x4 q (by omega) h2
