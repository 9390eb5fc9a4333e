/-! ### the start: what the campaign and the law's rows hold -/
def G9 : cr_G := fun j => if j = 1 then gZ9 else fun _ => 0
def stF : Nat → Int32 := upd (upd (upd (upd (upd (upd (fun _ => 0) (0 : Int32).toNatClampNeg 16) (1 : Int32).toNatClampNeg 5) (2 : Int32).toNatClampNeg 3) (3 : Int32).toNatClampNeg 24) (4 : Int32).toNatClampNeg 2) (5 : Int32).toNatClampNeg 10
def cF : Nat → Int32 := upd (upd (fun _ => 0) (1 : Int32).toNatClampNeg (-1)) (4 : Int32).toNatClampNeg (-1)
def L9 : cr_G := fun j => if j = 3 then cF else fun _ => 0
def L11 : cr_G := fun j => if j = 1 then stF else fun _ => 0
def S00 : cr_S := (fun f => if f < 8 then G0 else if f = 8 then G8 else if f = 11 then L11 else L9, fun _ => 0)
theorem st_fr : fr 0 0 0 0 0 G0 gZ9 := by
  intro j i h
  rcases h with ⟨rfl, h⟩ | ⟨rfl, h⟩ | ⟨rfl, h⟩ | ⟨rfl, h⟩ | ⟨rfl, h⟩ | ⟨rfl, h⟩ | ⟨rfl, h⟩ | ⟨rfl, h⟩ | ⟨rfl, h⟩ | ⟨rfl, h⟩ | ⟨rfl, h⟩ | ⟨rfl, h⟩ | ⟨rfl, h⟩ | ⟨rfl, h⟩ | ⟨h6, h7, h⟩
  · rcases h with rfl | rfl <;> decide +kernel
  · subst h; decide +kernel
  · omega
  · omega
  · subst h; decide +kernel
  · omega
  · omega
  · subst h; decide +kernel
  · omega
  · exact (show ∀ i, i < 5 → G0 10 i = gZ9 (mp 10 i) by decide +kernel) i h
  · subst h; decide +kernel
  · omega
  · exact (show ∀ i, i < 7 → G0 13 i = gZ9 (mp 13 i) by decide +kernel) i h
  · exact (show ∀ i, i < 5 → G0 14 i = gZ9 (mp 14 i) by decide +kernel) i h
  · omega
theorem st_jC : jC 0 0 0 0 0 0 gZ9 := ⟨⟨by decide, by decide, by decide, by decide, by decide⟩, by decide +kernel, by decide +kernel, by decide +kernel, by decide +kernel, by decide +kernel, by decide +kernel⟩
theorem st_jS : jS gZ9 := ⟨⟨5, by decide, by decide, by decide +kernel⟩, ⟨2, by decide, by decide +kernel⟩⟩
theorem st_jK : jK gZ9 := ⟨⟨0, by decide, by decide +kernel⟩, Or.inl ⟨by decide +kernel, by decide +kernel⟩, fun _ => by decide +kernel⟩
theorem st_jD : jD 0 gZ9 := fun t _ h => (show ∀ t, t < 10 → gZ9 (30 + t) = nI 0 ∧ gZ9 (40 + t) = nI 0 ∧ gZ9 (50 + t) = nI 0 ∧ gZ9 (60 + t) = nI 0 by decide +kernel) t h
theorem st_jQ : jQ 0 gZ9 := by
  show sI (fun k => gZ9 (177 + k)) 5 = sI (fun t => gZ9 (50 + t)) 0
  decide +kernel
theorem st_J : J 0 0 0 0 0 0 0 gZ9 := ⟨st_jC, st_jS, fun t h => by omega, fun t h => by omega, st_jQ, ⟨fun k h => by omega, fun k k' h => by omega⟩, st_jK, ⟨fun _ => 0, fun k h => by omega, fun k k' _ h => by omega⟩, fun k h => by omega, st_jD⟩
theorem st_R0 : R S00 G9 := by
  refine ⟨⟨0, 0, 0, 0, 0, 0, st_fr, st_J, by decide⟩, ⟨0, 0, by decide, by decide, by decide +kernel, by decide +kernel, by decide +kernel, fun i h => by omega⟩, ⟨0, by decide, by decide +kernel, by decide +kernel, fun k h => by omega⟩⟩
theorem st_aT : aT 0 (L9 0) gZ9 := fun t i ht hi => by
  have h9 : ∀ t, t < 6 → ∀ i, i < 7 → 3 ≤ i → L9 0 (7 * t + i) = gZ9 (10 * i + t) := by decide +kernel
  exact h9 t (by omega) i hi (by omega)
theorem st_aC : aC (L9 3) gZ9 := fun k hk => (show ∀ k, k < 14 → L9 3 k = gZ9 (mcs k) by decide +kernel) k hk
theorem st_aS : aS (L11 1) gZ9 := fun k hk => (show ∀ k, k < 7 → L11 1 k = gZ9 (71 + k) by decide +kernel) k hk
theorem st_RV : RV S00 gZ9 0 0 0 0 0 0 0 := by
  refine ⟨⟨st_fr, st_J, ⟨Or.inl (by decide +kernel), Or.inl (by decide +kernel)⟩, ⟨st_aT, fun b hb => by omega, fun k hk => ?_, st_aC⟩, ⟨fun k hk => ?_, st_aS, fun b hb => by omega⟩, by decide, by decide⟩, ⟨G9, st_R0⟩, by decide +kernel, by decide +kernel, by decide⟩
  · obtain rfl : k = 0 := by omega
    show L9 2 0 = gZ9 (145 + 0)
    decide +kernel
  · obtain rfl : k = 0 := by omega
    show L11 0 0 = gZ9 (78 + 0)
    decide +kernel
/-! where the cells lie -/
def plc (u : Nat → Nat → Nat) (q : Nat → Nat) : Nat → Nat → Nat := fun f j => if f = 9 then (if j = 3 then q 6 else q j) else if f = 11 then q (3 + j) else if f = 13 then 0 else u f j
def ixW (f j : Nat) : Nat := if f < 8 then bs f + j else if f = 8 then (if j = 0 then 0 else 50 + j) else if f = 9 then (if j = 3 then 210 else 204 + j) else 207 + j
theorem fc_same {E E' : cr_E} {f : Nat} (G : cr_G) (j : Nat) (h : E.2.1 f = E'.2.1 f) (h2 : E.2.2.2 = E'.2.2.2) : cr_fc E f G j = cr_fc E' f G j := by
  unfold cr_fc
  rw [h, h2]
def lrN (k : Nat) : Nat := ([42, 22, 9, 50, 7, 16, 14] : List Nat).getD k 0
def lrF (k : Nat) : Nat → Int32 := if k = 4 then stF else if k = 6 then cF else fun _ => 0
/-- the world when the law's loop begins -/
def st_G (c : Nat → ClassId) (u : Nat → Nat → Nat) (gc g : Nat → Nat × va_E) (q : Nat → Nat) : Prop :=
  (∀ f j, f < 8 → j < 25 → gc (bs f + j) = (u f j, cr_fc (ctV c u) f G0 j)) ∧ gc 0 = (u 8 0, cr_cc (ctV c u) G8 0) ∧ gc 51 = (u 8 1, cr_cc (ctV c u) G8 1) ∧ gc 52 = (u 8 2, cr_cc (ctV c u) G8 2) ∧ gc 53 = (u 8 3, cr_cc (ctV c u) G8 3) ∧
  (∀ i, i < 204 → g i = gc i) ∧ ∀ k, k < 7 → g (204 + k) = (q k, .inl (c 0, lrN k, .inl (lrF k)))
section ST
variable {D : va_G} {c : Nat → ClassId} {u : Nat → Nat → Nat} {gc g : Nat → Nat × va_E} {q : Nat → Nat} {A : Nat → Prop} {H : Heap}
theorem plc_f {u : Nat → Nat → Nat} {q : Nat → Nat} {f : Nat} (h : f ≤ 8) : plc u q f = u f := funext fun j => (if_neg (by omega)).trans ((if_neg (by omega)).trans (if_neg (by omega)))
abbrev E00 (D : va_G) (u : Nat → Nat → Nat) (q : Nat → Nat) (A : Nat → Prop) (c : Nat → ClassId) : cr_E := (D, plc u q, A, c)
theorem E00_nf : ¬ cr_fl (E00 D u q A c) := fun h => by
  have h9 : (0 : Nat) = 1 := h
  omega
theorem ixW_cases {f j : Nat} (h : cr_lv (E00 D u q A c) f j) : (f < 2 ∧ j < 25 ∧ ixW f j = 1 + 25 * f + j) ∨ (2 ≤ f ∧ f < 8 ∧ j < 25 ∧ ixW f j = 54 + 25 * (f - 2) + j) ∨ (f = 8 ∧ j = 0 ∧ ixW f j = 0) ∨ (f = 8 ∧ 1 ≤ j ∧ j < 4 ∧ ixW f j = 50 + j) ∨ (f = 9 ∧ j < 3 ∧ ixW f j = 204 + j) ∨ (f = 9 ∧ j = 3 ∧ ixW f j = 210) ∨ (f = 11 ∧ j < 3 ∧ ixW f j = 207 + j) := by
  rcases h with ⟨h1, h2⟩ | ⟨rfl, h2⟩ | ⟨rfl, h2⟩ | ⟨_, _, h3⟩ | ⟨rfl, h2⟩
  · have e1 : ixW f j = bs f + j := if_pos h1
    by_cases e : f < 2
    · have e2 : bs f = 1 + 25 * f := if_pos e
      exact Or.inl ⟨e, h2, by rw [e1, e2]⟩
    · have e2 : bs f = 54 + 25 * (f - 2) := if_neg e
      exact Or.inr (Or.inl ⟨by omega, h1, h2, by rw [e1, e2]⟩)
  · by_cases e : j = 0
    · subst e
      exact Or.inr (Or.inr (Or.inl ⟨rfl, rfl, rfl⟩))
    · have e1 : ixW 8 j = 50 + j := (if_neg (show ¬ (8 < 8) by omega)).trans ((if_pos rfl).trans (if_neg e))
      exact Or.inr (Or.inr (Or.inr (Or.inl ⟨rfl, by omega, h2, e1⟩)))
  · by_cases e : j = 3
    · subst e
      exact Or.inr (Or.inr (Or.inr (Or.inr (Or.inr (Or.inl ⟨rfl, rfl, rfl⟩)))))
    · have e1 : ixW 9 j = 204 + j := (if_neg (show ¬ (9 < 8) by omega)).trans ((if_neg (show ¬ (9 = 8) by omega)).trans ((if_pos rfl).trans (if_neg e)))
      exact Or.inr (Or.inr (Or.inr (Or.inr (Or.inl ⟨rfl, by omega, e1⟩))))
  · exact absurd h3 E00_nf
  · exact Or.inr (Or.inr (Or.inr (Or.inr (Or.inr (Or.inr ⟨rfl, h2, rfl⟩)))))
theorem ixW_lt {f j : Nat} (h : cr_lv (E00 D u q A c) f j) : ixW f j < 211 := by
  have h1 := ixW_cases h
  omega
theorem ixW_inj {f j f' j' : Nat} (h : cr_lv (E00 D u q A c) f j) (h' : cr_lv (E00 D u q A c) f' j') (e : ixW f j = ixW f' j') : f = f' ∧ j = j' := by
  have h1 := ixW_cases h
  have h2 := ixW_cases h'
  omega
theorem bs_lt {f j : Nat} (h : f < 8) (h2 : j < 25) : bs f + j < 204 := by
  unfold bs
  split <;> omega
theorem st_addr (h : st_G c u gc g q) {f j : Nat} (hl : cr_lv (E00 D u q A c) f j) : (g (ixW f j)).1 = plc u q f j := by
  obtain ⟨h1, h2, h3, h4, h5, h7, h8⟩ := h
  rcases hl with ⟨a, b⟩ | ⟨rfl, b⟩ | ⟨rfl, b⟩ | ⟨_, _, h9⟩ | ⟨rfl, b⟩
  · have e1 : ixW f j = bs f + j := if_pos a
    rw [e1, h7 _ (bs_lt a b), h1 f j a b, plc_f (by omega)]
  · rw [plc_f (by omega)]
    rcases (show j = 0 ∨ j = 1 ∨ j = 2 ∨ j = 3 by omega) with rfl | rfl | rfl | rfl
    · show (g 0).1 = _
      rw [h7 0 (by decide), h2]
    · show (g 51).1 = _
      rw [h7 51 (by decide), h3]
    · show (g 52).1 = _
      rw [h7 52 (by decide), h4]
    · show (g 53).1 = _
      rw [h7 53 (by decide), h5]
  · rcases (show j = 0 ∨ j = 1 ∨ j = 2 ∨ j = 3 by omega) with rfl | rfl | rfl | rfl
    · exact congrArg Prod.fst (h8 0 (by decide))
    · exact congrArg Prod.fst (h8 1 (by decide))
    · exact congrArg Prod.fst (h8 2 (by decide))
    · exact congrArg Prod.fst (h8 6 (by decide))
  · exact absurd h9 E00_nf
  · rcases (show j = 0 ∨ j = 1 ∨ j = 2 by omega) with rfl | rfl | rfl
    · exact congrArg Prod.fst (h8 3 (by decide))
    · exact congrArg Prod.fst (h8 4 (by decide))
    · exact congrArg Prod.fst (h8 5 (by decide))
theorem st_EK (h : st_G c u gc g q) (hD : va_D A (wl 211 g)) : cr_EK (E00 D u q A c) := by
  refine ⟨fun f j f' j' a a' he => ?_, fun f j a => ?_⟩
  · exact ixW_inj a a' (hD.1 (ixW f j) (ixW f' j') _ _ (wl_at (ixW_lt a)) (wl_at (ixW_lt a')) ((st_addr h a).trans (Eq.trans he (st_addr h a').symm)))
  · have q9 := hD.2 (ixW f j) _ (wl_at (ixW_lt a))
    rw [st_addr h a] at q9
    exact q9
theorem st_row {a n : Nat} {cA : ClassId} {f f' : Nat → Option Nat} (hf : ∀ j, j < n → f j = f' j) (h : va_at D vwCl (a, .inl (cA, n, .inr (.inr (.inr (.inr f))))) H) : va_at D vwCl (a, .inl (cA, n, .inr (.inr (.inr (.inr f'))))) H := by
  have hc : vp_cell cA (n, .inr (.inr (.inr (.inr f)))) = vp_cell cA (n, .inr (.inr (.inr (.inr f')))) := by
    show arrV cA n (fun j => va_rf (f j)) = arrV cA n (fun j => va_rf (f' j))
    unfold arrV
    have h9 : (fun j : Fin n => va_rf (f j.val)) = fun j : Fin n => va_rf (f' j.val) := funext fun j => by rw [hf j.val j.isLt]
    rw [h9]
  have h1 : H[a]? = some (vp_cell cA (n, .inr (.inr (.inr (.inr f))))) := h
  rw [hc] at h1
  exact h1
theorem st_WH (h : st_G c u gc g q) (hP : va_P D vwCl (wl 211 g) H) : cr_WH (E00 D u q A c) S00 H := by
  obtain ⟨h1, h2, h3, h4, h5, h7, h8⟩ := h
  have at_ : ∀ i, i < 211 → va_at D vwCl (g i) H := fun i hi => hP i _ (wl_at hi)
  intro f j hl
  rcases hl with ⟨a, b⟩ | ⟨rfl, b⟩ | ⟨rfl, b⟩ | ⟨_, _, h9⟩ | ⟨rfl, b⟩
  · have e := at_ (bs f + j) (Nat.lt_trans (bs_lt a b) (by decide))
    rw [h7 _ (bs_lt a b), h1 f j a b] at e
    have e1 : plc u q f = u f := plc_f (by omega)
    have e2 : cr_wc (E00 D u q A c) S00 f j = cr_fc (ctV c u) f G0 j := by
      unfold cr_wc
      rw [if_pos a]
      have e3 : S00.1 f = G0 := if_pos a
      rw [e3]
      exact fc_same _ _ e1 rfl
    show va_at D vwCl (plc u q f j, cr_wc (E00 D u q A c) S00 f j) H
    rw [e2, e1]
    exact e
  · rcases (show j = 0 ∨ j = 1 ∨ j = 2 ∨ j = 3 by omega) with rfl | rfl | rfl | rfl
    · have e := at_ 0 (by decide)
      rw [h7 0 (by decide), h2] at e
      exact e
    · have e := at_ 51 (by decide)
      rw [h7 51 (by decide), h3] at e
      refine st_row (fun k hk => ?_) e
      show some (u (k + 2) 0) = some (plc u q (k + 2) 0)
      rw [plc_f (by omega)]
    · have e := at_ 52 (by decide)
      rw [h7 52 (by decide), h4] at e
      exact e
    · have e := at_ 53 (by decide)
      rw [h7 53 (by decide), h5] at e
      exact e
  · rcases (show j = 0 ∨ j = 1 ∨ j = 2 ∨ j = 3 by omega) with rfl | rfl | rfl | rfl
    · have e := at_ (204 + 0) (by decide)
      rw [h8 0 (by decide)] at e
      exact e
    · have e := at_ (204 + 1) (by decide)
      rw [h8 1 (by decide)] at e
      exact e
    · have e := at_ (204 + 2) (by decide)
      rw [h8 2 (by decide)] at e
      exact e
    · have e := at_ (204 + 6) (by decide)
      rw [h8 6 (by decide)] at e
      exact e
  · exact absurd h9 E00_nf
  · rcases (show j = 0 ∨ j = 1 ∨ j = 2 by omega) with rfl | rfl | rfl
    · have e := at_ (204 + 3) (by decide)
      rw [h8 3 (by decide)] at e
      exact e
    · have e := at_ (204 + 4) (by decide)
      rw [h8 4 (by decide)] at e
      exact e
    · have e := at_ (204 + 5) (by decide)
      rw [h8 5 (by decide)] at e
      exact e
end ST
