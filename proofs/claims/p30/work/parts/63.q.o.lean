/-! ### winds: the parts of the text -/
def PT (cd w : Nat → Nat) : Nat → Nat → Nat → Prop
  | 0, l, a => l = 0 ∧ a = 0
  | m + 1, l, a => ∃ l0 a0 b v T, PT cd w m l0 a0 ∧ ((m = 0 ∧ b = 0) ∨ (0 < m ∧ cd l0 = 44 ∧ b = l0 + 1)) ∧ sg cd b l v T ∧ a = a0 + T ∧ ∀ q, a0 ≤ q → q < a → w q = v
theorem PT_c {cd cd' w w' : Nat → Nat} : ∀ {m l a : Nat}, PT cd w m l a → (∀ i, i < l → cd' i = cd i) → (∀ q, q < a → w' q = w q) → PT cd' w' m l a
  | 0, _, _, h, _, _ => h
  | m + 1, l, a, ⟨l0, a0, b, v, T, h1, h2, h3, h4, h5⟩, hc, hw => by
    have hn := sg_n h3
    have hl : l0 < l := by
      rcases h2 with ⟨k1, k2⟩ | ⟨k1, k2, k3⟩
      · subst k1
        have : l0 = 0 := h1.1
        omega
      · omega
    refine ⟨l0, a0, b, v, T, PT_c h1 (fun i hi => hc i (by omega)) (fun q hq => hw q (by omega)), ?_, sg_c h3 hc, h4, fun q hq1 hq2 => by rw [hw q hq2]; exact h5 q hq1 hq2⟩
    rcases h2 with k | ⟨k1, k2, k3⟩
    · exact Or.inl k
    · exact Or.inr ⟨k1, by rw [hc _ hl]; exact k2, k3⟩
theorem PT_n {cd w : Nat → Nat} {m l a : Nat} (h : PT cd w m l a) (hm : 0 < m) : 0 < l ∧ cd (l - 1) ≠ 44 := by
  obtain ⟨m, rfl⟩ : ∃ k, m = k + 1 := ⟨m - 1, by omega⟩
  obtain ⟨l0, a0, b, v, T, h1, h2, h3, h4, h5⟩ := h
  obtain ⟨n1, n2, n3⟩ := sg_n h3
  exact ⟨by omega, n3 _ (by omega) (by omega)⟩
theorem PT_len {cd w : Nat → Nat} : ∀ {m l a : Nat}, PT cd w m l a → l ≤ 6 * m ∧ a ≤ 10 * m ∧ ∀ q, q < a → w q ≤ 30
  | 0, _, _, h => ⟨by have := h.1; omega, by have := h.2; omega, fun q hq => by have := h.2; omega⟩
  | m + 1, l, a, ⟨l0, a0, b, v, T, h1, h2, h3, h4, h5⟩ => by
    obtain ⟨i1, i2, i3⟩ := PT_len h1
    obtain ⟨n1, n2, -⟩ := sg_n h3
    have hT := h3.2.2.1
    refine ⟨by omega, by omega, fun q hq => ?_⟩
    by_cases e : q < a0
    · exact i3 q e
    · rw [h5 q (by omega) hq]
      exact h3.1
theorem PT_s {cd w : Nat → Nat} : ∀ {m l a : Nat}, PT cd w m l a → 0 < m → edb (stt cd l) = true ∧ stt cd l < 10
  | 0, _, _, _, hm => absurd hm (by omega)
  | m + 1, l, a, ⟨l0, a0, b, v, T, h1, h2, h3, h4, h5⟩, _ => by
    refine sg_s h3 ?_
    rcases h2 with ⟨k1, k2⟩ | ⟨k1, k2, k3⟩
    · rw [k2]; rfl
    · obtain ⟨i1, i2⟩ := PT_s h1 k1
      rw [k3, stt_s, k2, aft44 _ i2, if_pos i1]
theorem PT_nc {A : cr_G} {cd w : Nat → Nat} {len : Nat} (hA : ax A cd len) : ∀ {m l a : Nat}, PT cd w m l a → l ≤ len → (l = len ∨ cd l = 44 ∨ m = 0) → ∀ n, s_X6_numberCount_4 A (n + l) (nI 0) (nI 0) = s_X6_numberCount_4 A n (nI a) (nI l)
  | 0, _, _, h, _, _, n => by rw [h.1, h.2]; rfl
  | m + 1, l, a, ⟨l0, a0, b, v, T, h1, h2, h3, h4, h5⟩, hl, he, n => by
    obtain ⟨n1, n2, n3⟩ := sg_n h3
    have he' : l = len ∨ (l < len ∧ cd l = 44) := by omega
    have hT := sg_T hA h3 he'
    have hbs : b = 0 ∨ (0 < b ∧ cd (b - 1) = 44) := by
      rcases h2 with ⟨k1, k2⟩ | ⟨k1, k2, k3⟩
      · exact Or.inl k2
      · exact Or.inr ⟨by omega, by rw [k3, Nat.add_sub_cancel]; exact k2⟩
    have k1 := nc_b (n := n + (l - (b + 1))) (a := a0) hA (show b < len by omega) hbs hT
    have k2 := nc_skip (X := nI (a0 + T)) hA hl (l - (b + 1)) (b + 1) n rfl (by omega) (fun t ht1 ht2 => ⟨by omega, n3 _ (by omega) (by omega)⟩)
    rw [k2] at k1
    rw [h4, ← k1]
    rcases h2 with ⟨e1, e2⟩ | ⟨e1, e2, e3⟩
    · subst e1 e2
      have hl0 : l0 = 0 := h1.1
      have ha0 : a0 = 0 := h1.2
      subst ha0
      rw [show n + l = n + (l - (0 + 1)) + 1 by omega]
    · obtain ⟨p1, p2⟩ := PT_n h1 e1
      have ih := PT_nc hA h1 (by omega) (Or.inr (Or.inl e2)) (n + (l - l0))
      rw [show n + (l - l0) + l0 = n + l by omega] at ih
      rw [ih]
      have k3 := nc_s (n := n + (l - (b + 1)) + 1) (X := nI a0) hA (show l0 < len by omega) p1 p2
      rw [show n + (l - (b + 1)) + 1 + 1 = n + (l - l0) by omega] at k3
      rw [k3, e3]
theorem PT_wt {cd w : Nat → Nat} {len : Nat} : ∀ {m l a : Nat}, PT cd w m l a → l ≤ len → (l = len ∨ cd l = 44 ∨ m = 0) → a ≤ 48 → ∀ (n : Nat) (S : cr_S), ax (S.1 8) cd len → S.1 0 11 1 = nI 0 → ∃ G', s_X6_writeTo_7 (n + l) (nI 0) S = s_X6_writeTo_7 n (nI l) (cr_us S 0 G') ∧ G' 11 1 = nI a ∧ (∀ q, q < a → G' 12 q = nI (w q)) ∧ ∀ j, j ≠ 11 → j ≠ 12 → G' j = S.1 0 j
  | 0, _, _, h, _, _, _, n, S, hA, h0 => ⟨S.1 0, by rw [h.1, cr_us_self]; rfl, by rw [h.2]; exact h0, fun q hq => by have := h.2; omega, fun _ _ _ => rfl⟩
  | m + 1, l, a, ⟨l0, a0, b, v, T, h1, h2, h3, h4, h5⟩, hl, he, ha, n, S, hA, h0 => by
    obtain ⟨n1, n2, n3⟩ := sg_n h3
    have he' : l = len ∨ (l < len ∧ cd l = 44) := by omega
    have hbs : b = 0 ∨ (0 < b ∧ cd (b - 1) = 44) := by
      rcases h2 with ⟨k1, k2⟩ | ⟨k1, k2, k3⟩
      · exact Or.inl k2
      · exact Or.inr ⟨by omega, by rw [k3, Nat.add_sub_cancel]; exact k2⟩
    have hT := sg_T hA h3 he'
    have hV := sg_V hA h3 he'
    have hT10 := h3.2.2.1
    -- to this part's beginning
    have hpre : ∃ G1, s_X6_writeTo_7 (n + l) (nI 0) S = s_X6_writeTo_7 (n + (l - (b + 1)) + 1) (nI b) (cr_us S 0 G1) ∧ G1 11 1 = nI a0 ∧ (∀ q, q < a0 → G1 12 q = nI (w q)) ∧ ∀ j, j ≠ 11 → j ≠ 12 → G1 j = S.1 0 j := by
      rcases h2 with ⟨e1, e2⟩ | ⟨e1, e2, e3⟩
      · subst e1 e2
        have ha0 : a0 = 0 := h1.2
        subst ha0
        exact ⟨S.1 0, by rw [cr_us_self, show n + l = n + (l - (0 + 1)) + 1 by omega], h0, fun q hq => by omega, fun _ _ _ => rfl⟩
      · obtain ⟨p1, p2⟩ := PT_n h1 e1
        obtain ⟨G1, g1, g2, g3, g4⟩ := PT_wt h1 (by omega) (Or.inr (Or.inl e2)) (by omega) (n + (l - l0)) S hA h0
        refine ⟨G1, ?_, g2, g3, g4⟩
        rw [show n + (l - l0) + l0 = n + l by omega] at g1
        rw [g1]
        have hA2 : ax ((cr_us S 0 G1).1 8) cd len := by rw [cr_us_ne _ _ (by omega)]; exact hA
        have k3 := wt_s (n := n + (l - (b + 1)) + 1) hA2 (show l0 < len by omega) p1 p2
        rw [show n + (l - (b + 1)) + 1 + 1 = n + (l - l0) by omega] at k3
        rw [k3, e3]
    obtain ⟨G1, g1, g2, g3, g4⟩ := hpre
    have hA2 : ax ((cr_us S 0 G1).1 8) cd len := by rw [cr_us_ne _ _ (by omega)]; exact hA
    obtain ⟨G2, f1, f2, f3, f4, f5⟩ := wt_part (n := n + (l - (b + 1))) (a := a0) hA2 (show b < len by omega) hbs (by rw [cr_us_ne _ _ (by omega)]; exact hV) (by rw [cr_us_ne _ _ (by omega)]; exact hT) (by omega) (by rw [cr_us_eq]; exact g2) (by omega)
    rw [cr_us_us] at f1
    rw [cr_us_eq] at f3 f5
    have hA3 : ax ((cr_us S 0 G2).1 8) cd len := by rw [cr_us_ne _ _ (by omega)]; exact hA
    have k2 := wt_skip hA3 hl (l - (b + 1)) (b + 1) n rfl (by omega) (fun t ht1 ht2 => ⟨by omega, n3 _ (by omega) (by omega)⟩)
    refine ⟨G2, g1.trans (f1.trans k2), by rw [h4]; exact f2, fun q hq => ?_, fun j hj1 hj2 => (f5 j hj1 hj2).trans (g4 j hj1 hj2)⟩
    by_cases e : q < a0
    · rw [f3 q e]; exact g3 q e
    · rw [f4 q (by omega) (by omega), h5 q (by omega) hq]
