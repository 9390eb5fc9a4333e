/-! ### the start: what the campaign and its model hold -/
def G9 : cr_G := fun j => if j = 1 then gZ9 else fun _ => 0
def S00 : cr_S := (fun f => if f < 8 then G0 else if f = 8 then G8 else G9, fun _ => 0)
theorem st_fr : fr 0 0 0 0 0 G0 gZ9 := by
  intro j i h
  rcases h with ⟨rfl, h⟩ | ⟨rfl, h⟩ | ⟨rfl, h⟩ | ⟨rfl, h⟩ | ⟨rfl, h⟩ | ⟨rfl, h⟩ | ⟨rfl, h⟩ | ⟨rfl, h⟩ | ⟨rfl, h⟩ | ⟨rfl, h⟩ | ⟨rfl, h⟩ | ⟨rfl, h⟩ | ⟨rfl, h⟩ | ⟨rfl, h⟩ | ⟨h6, h7, h⟩
  · rcases h with rfl | rfl <;> decide +kernel
  · subst h; decide +kernel
  · omega
  · omega
  · subst h; decide +kernel
  · omega
  · omega
  · subst h; decide +kernel
  · omega
  · exact (show ∀ i, i < 5 → G0 10 i = gZ9 (mp 10 i) by decide +kernel) i h
  · subst h; decide +kernel
  · omega
  · exact (show ∀ i, i < 7 → G0 13 i = gZ9 (mp 13 i) by decide +kernel) i h
  · exact (show ∀ i, i < 5 → G0 14 i = gZ9 (mp 14 i) by decide +kernel) i h
  · omega
theorem st_jC : jC 0 0 0 0 0 0 gZ9 := ⟨⟨by decide, by decide, by decide, by decide, by decide⟩, by decide +kernel, by decide +kernel, by decide +kernel, by decide +kernel, by decide +kernel, by decide +kernel⟩
theorem st_jS : jS gZ9 := ⟨⟨5, by decide, by decide, by decide +kernel⟩, ⟨2, by decide, by decide +kernel⟩⟩
theorem st_jK : jK gZ9 := ⟨⟨0, by decide, by decide +kernel⟩, Or.inl ⟨by decide +kernel, by decide +kernel⟩, fun _ => by decide +kernel⟩
theorem st_jD : jD 0 gZ9 := fun t _ h => (show ∀ t, t < 10 → gZ9 (30 + t) = nI 0 ∧ gZ9 (40 + t) = nI 0 ∧ gZ9 (50 + t) = nI 0 ∧ gZ9 (60 + t) = nI 0 by decide +kernel) t h
theorem st_jQ : jQ 0 gZ9 := by
  show sI (fun k => gZ9 (177 + k)) 5 = sI (fun t => gZ9 (50 + t)) 0
  decide +kernel
theorem st_J : J 0 0 0 0 0 0 0 gZ9 := ⟨st_jC, st_jS, fun t h => by omega, fun t h => by omega, st_jQ, ⟨fun k h => by omega, fun k k' h => by omega⟩, st_jK, ⟨fun _ => 0, fun k h => by omega, fun k k' _ h => by omega⟩, fun k h => by omega, st_jD⟩
theorem st_R0 : R S00 (S00.1 9) := by
  refine ⟨⟨0, 0, 0, 0, 0, 0, st_fr, st_J, by decide⟩, ⟨0, 0, by decide, by decide, by decide +kernel, by decide +kernel, by decide +kernel, fun i h => by omega⟩, ⟨0, by decide, by decide +kernel, by decide +kernel, fun k h => by omega⟩⟩
/-! where the cells lie -/
def plc (u : Nat → Nat → Nat) (a9 : Nat → Nat) (qo : Nat) : Nat → Nat → Nat := fun f j => if f = 9 then a9 j else if f = 10 then qo else u f j
def ixW (f j : Nat) : Nat := if f < 8 then bs f + j else if f = 8 then (if j = 0 then 0 else 50 + j) else if f = 9 then 204 + j else 211
theorem ixW_cases {f j : Nat} (h : cr_lv f j) : (f < 2 ∧ j < 25 ∧ ixW f j = 1 + 25 * f + j) ∨ (2 ≤ f ∧ f < 8 ∧ j < 25 ∧ ixW f j = 54 + 25 * (f - 2) + j) ∨ (f = 8 ∧ j = 0 ∧ ixW f j = 0) ∨ (f = 8 ∧ 1 ≤ j ∧ j < 4 ∧ ixW f j = 50 + j) ∨ (f = 9 ∧ j < 7 ∧ ixW f j = 204 + j) ∨ (f = 10 ∧ j = 0 ∧ ixW f j = 211) := by
  rcases h with ⟨h1, h2⟩ | ⟨rfl, h2⟩ | ⟨rfl, h2⟩ | ⟨rfl, rfl⟩
  · have e1 : ixW f j = bs f + j := if_pos h1
    by_cases e : f < 2
    · have e2 : bs f = 1 + 25 * f := if_pos e
      exact Or.inl ⟨e, h2, by rw [e1, e2]⟩
    · have e2 : bs f = 54 + 25 * (f - 2) := if_neg e
      exact Or.inr (Or.inl ⟨by omega, h1, h2, by rw [e1, e2]⟩)
  · by_cases e : j = 0
    · subst e
      exact Or.inr (Or.inr (Or.inl ⟨rfl, rfl, rfl⟩))
    · have e1 : ixW 8 j = 50 + j := (if_neg (show ¬ (8 < 8) by omega)).trans ((if_pos rfl).trans (if_neg e))
      exact Or.inr (Or.inr (Or.inr (Or.inl ⟨rfl, by omega, h2, e1⟩)))
  · have e1 : ixW 9 j = 204 + j := (if_neg (show ¬ (9 < 8) by omega)).trans ((if_neg (show ¬ (9 = 8) by omega)).trans (if_pos rfl))
    exact Or.inr (Or.inr (Or.inr (Or.inr (Or.inl ⟨rfl, h2, e1⟩))))
  · exact Or.inr (Or.inr (Or.inr (Or.inr (Or.inr ⟨rfl, rfl, rfl⟩))))
theorem ixW_lt {f j : Nat} (h : cr_lv f j) : ixW f j < 212 := by
  have h1 := ixW_cases h
  omega
theorem ixW_inj {f j f' j' : Nat} (h : cr_lv f j) (h' : cr_lv f' j') (e : ixW f j = ixW f' j') : f = f' ∧ j = j' := by
  have h1 := ixW_cases h
  have h2 := ixW_cases h'
  omega
theorem fc_same {E E' : cr_E} {f : Nat} (G : cr_G) (j : Nat) (h : E.2.1 f = E'.2.1 f) (h2 : E.2.2.2 = E'.2.2.2) : cr_fc E f G j = cr_fc E' f G j := by
  unfold cr_fc
  rw [h, h2]
/-- the world when the law's loop begins -/
def st_G (c : Nat → ClassId) (u : Nat → Nat → Nat) (gc g9 g : Nat → Nat × va_E) (qo : Nat) : Prop :=
  (∀ f j, f < 8 → j < 25 → gc (bs f + j) = (u f j, cr_fc (ctV c u) f G0 j)) ∧ gc 0 = (u 8 0, cr_cc (ctV c u) G8 0) ∧ gc 51 = (u 8 1, cr_cc (ctV c u) G8 1) ∧ gc 52 = (u 8 2, cr_cc (ctV c u) G8 2) ∧ gc 53 = (u 8 3, cr_cc (ctV c u) G8 3) ∧ sp9 c g9 ∧
  (∀ i, i < 204 → g i = gc i) ∧ (∀ k, k < 7 → g (204 + k) = g9 k) ∧ g 211 = (qo, .inl (c 1, 1, .inr (.inl (fun _ => 0))))
section ST
variable {D : va_G} {c : Nat → ClassId} {u : Nat → Nat → Nat} {gc g9 g : Nat → Nat × va_E} {qo : Nat} {A : Nat → Prop} {H : Heap}
theorem plc_f {u : Nat → Nat → Nat} {a9 : Nat → Nat} {qo f : Nat} (h : f ≤ 8) : plc u a9 qo f = u f := funext fun j => (if_neg (by omega)).trans (if_neg (by omega))
theorem bs_lt {f j : Nat} (h : f < 8) (h2 : j < 25) : bs f + j < 204 := by
  have h1 := ixW_cases (Or.inl ⟨h, h2⟩ : cr_lv f j)
  have h3 : ixW f j = bs f + j := if_pos h
  omega
theorem st_addr (h : st_G c u gc g9 g qo) {f j : Nat} (hl : cr_lv f j) : (g (ixW f j)).1 = plc u (fun k => (g9 k).1) qo f j := by
  obtain ⟨h1, h2, h3, h4, h5, h6, h7, h8, h9⟩ := h
  rcases hl with ⟨a, b⟩ | ⟨rfl, b⟩ | ⟨rfl, b⟩ | ⟨rfl, rfl⟩
  · have e1 : ixW f j = bs f + j := if_pos a
    rw [e1, h7 _ (bs_lt a b), h1 f j a b, plc_f (by omega)]
  · rw [plc_f (by omega)]
    rcases (show j = 0 ∨ j = 1 ∨ j = 2 ∨ j = 3 by omega) with rfl | rfl | rfl | rfl
    · show (g 0).1 = _
      rw [h7 0 (by decide), h2]
    · show (g 51).1 = _
      rw [h7 51 (by decide), h3]
    · show (g 52).1 = _
      rw [h7 52 (by decide), h4]
    · show (g 53).1 = _
      rw [h7 53 (by decide), h5]
  · have e1 : ixW 9 j = 204 + j := (if_neg (show ¬ (9 < 8) by omega)).trans ((if_neg (show ¬ (9 = 8) by omega)).trans (if_pos rfl))
    rw [e1, h8 j b]
    rfl
  · show (g 211).1 = _
    rw [h9]
    rfl
theorem st_EK (h : st_G c u gc g9 g qo) (hD : va_D A (wl 212 g)) : cr_EK (D, plc u (fun k => (g9 k).1) qo, A, c) := by
  refine ⟨fun f j f' j' a a' he => ?_, fun f j a => ?_⟩
  · exact ixW_inj a a' (hD.1 (ixW f j) (ixW f' j') _ _ (wl_at (ixW_lt a)) (wl_at (ixW_lt a')) ((st_addr h a).trans (Eq.trans he (st_addr h a').symm)))
  · have q := hD.2 (ixW f j) _ (wl_at (ixW_lt a))
    rw [st_addr h a] at q
    exact q
theorem st_row {a n : Nat} {cA : ClassId} {f f' : Nat → Option Nat} (hf : ∀ j, j < n → f j = f' j) (h : va_at D vwCl (a, .inl (cA, n, .inr (.inr (.inr (.inr f))))) H) : va_at D vwCl (a, .inl (cA, n, .inr (.inr (.inr (.inr f'))))) H := by
  have hc : vp_cell cA (n, .inr (.inr (.inr (.inr f)))) = vp_cell cA (n, .inr (.inr (.inr (.inr f')))) := by
    show arrV cA n (fun j => va_rf (f j)) = arrV cA n (fun j => va_rf (f' j))
    unfold arrV
    have h9 : (fun j : Fin n => va_rf (f j.val)) = fun j : Fin n => va_rf (f' j.val) := funext fun j => by rw [hf j.val j.isLt]
    rw [h9]
  have h1 : H[a]? = some (vp_cell cA (n, .inr (.inr (.inr (.inr f))))) := h
  rw [hc] at h1
  exact h1
theorem st_WH (h : st_G c u gc g9 g qo) (hP : va_P D vwCl (wl 212 g) H) : cr_WH (D, plc u (fun k => (g9 k).1) qo, A, c) S00 H := by
  obtain ⟨h1, h2, h3, h4, h5, h6, h7, h8, h9⟩ := h
  have at_ : ∀ i, i < 212 → va_at D vwCl (g i) H := fun i hi => hP i _ (wl_at hi)
  intro f j hl
  rcases hl with ⟨a, b⟩ | ⟨rfl, b⟩ | ⟨rfl, b⟩ | ⟨rfl, rfl⟩
  · have e := at_ (bs f + j) (Nat.lt_trans (bs_lt a b) (by decide))
    rw [h7 _ (bs_lt a b), h1 f j a b] at e
    have e1 : plc u (fun k => (g9 k).1) qo f = u f := plc_f (by omega)
    have e2 : cr_wc (D, plc u (fun k => (g9 k).1) qo, A, c) S00 f j = cr_fc (ctV c u) f G0 j := by
      unfold cr_wc
      rw [if_pos a]
      have e3 : S00.1 f = G0 := if_pos a
      rw [e3]
      exact fc_same _ _ e1 rfl
    show va_at D vwCl (plc u (fun k => (g9 k).1) qo f j, cr_wc (D, plc u (fun k => (g9 k).1) qo, A, c) S00 f j) H
    rw [e2, e1]
    exact e
  · rcases (show j = 0 ∨ j = 1 ∨ j = 2 ∨ j = 3 by omega) with rfl | rfl | rfl | rfl
    · have e := at_ 0 (by decide)
      rw [h7 0 (by decide), h2] at e
      exact e
    · have e := at_ 51 (by decide)
      rw [h7 51 (by decide), h3] at e
      refine st_row (fun k hk => ?_) e
      show some (u (k + 2) 0) = some (plc u (fun k => (g9 k).1) qo (k + 2) 0)
      rw [plc_f (by omega)]
    · have e := at_ 52 (by decide)
      rw [h7 52 (by decide), h4] at e
      exact e
    · have e := at_ 53 (by decide)
      rw [h7 53 (by decide), h5] at e
      exact e
  · have e := at_ (204 + j) (by omega)
    rw [h8 j b] at e
    obtain ⟨k0, k1, k2, k3, k4, k5, k6⟩ := h6
    rcases (show j = 0 ∨ j = 1 ∨ j = 2 ∨ j = 3 ∨ j = 4 ∨ j = 5 ∨ j = 6 by omega) with rfl | rfl | rfl | rfl | rfl | rfl | rfl
    · have e' : va_at D vwCl ((g9 0).1, (g9 0).2) H := e
      rw [k0] at e'
      exact e'
    · have e' : va_at D vwCl ((g9 1).1, (g9 1).2) H := e
      rw [k1] at e'
      exact e'
    · have e' : va_at D vwCl ((g9 2).1, (g9 2).2) H := e
      rw [k2] at e'
      exact e'
    · have e' : va_at D vwCl ((g9 3).1, (g9 3).2) H := e
      rw [k3] at e'
      exact e'
    · have e' : va_at D vwCl ((g9 4).1, (g9 4).2) H := e
      rw [k4] at e'
      exact e'
    · have e' : va_at D vwCl ((g9 5).1, (g9 5).2) H := e
      rw [k5] at e'
      exact e'
    · have e' : va_at D vwCl ((g9 6).1, (g9 6).2) H := e
      rw [k6] at e'
      exact e'
  · have e := at_ 211 (by decide)
    rw [h9] at e
    exact e
end ST
/-! which place of the world a cell has after the two constructors -/
theorem st_g1 (g0 gc g9 : Nat → Nat × va_E) (x0 x9 xo : Nat × va_E) {i : Nat} (h : i < 204) : gu (gj (gu (gj (gu g0 0 x0) 1 0 gc) 204 x9) 205 204 g9) 211 xo i = gc i := by
  have e1 : gu (gj (gu (gj (gu g0 0 x0) 1 0 gc) 204 x9) 205 204 g9) 211 xo i = gj (gu g0 0 x0) 1 0 gc i := (if_neg (show ¬ i = 211 by omega)).trans ((if_neg (show ¬ i = 204 by omega)).trans ((if_pos (show i < 205 by omega)).trans (if_neg (show ¬ i = 204 by omega))))
  rw [e1]
  by_cases e : i = 0
  · subst e
    exact if_pos rfl
  · have e2 : gj (gu g0 0 x0) 1 0 gc i = gc (i - 1 + 1) := (if_neg e).trans (if_neg (show ¬ i < 1 by omega))
    rw [e2, show i - 1 + 1 = i by omega]
theorem st_g2 (g0 gc g9 : Nat → Nat × va_E) (x0 x9 xo : Nat × va_E) {k : Nat} (h : k < 7) : gu (gj (gu (gj (gu g0 0 x0) 1 0 gc) 204 x9) 205 204 g9) 211 xo (204 + k) = g9 k := by
  have e1 : gu (gj (gu (gj (gu g0 0 x0) 1 0 gc) 204 x9) 205 204 g9) 211 xo (204 + k) = gj (gu (gj (gu g0 0 x0) 1 0 gc) 204 x9) 205 204 g9 (204 + k) := if_neg (show ¬ 204 + k = 211 by omega)
  rw [e1]
  by_cases e : k = 0
  · subst e
    exact if_pos rfl
  · have e2 : gj (gu (gj (gu g0 0 x0) 1 0 gc) 204 x9) 205 204 g9 (204 + k) = g9 (204 + k - 205 + 1) := (if_neg (show ¬ 204 + k = 204 by omega)).trans (if_neg (show ¬ 204 + k < 205 by omega))
    rw [e2, show 204 + k - 205 + 1 = k by omega]
