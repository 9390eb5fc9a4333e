/-! ### the law's copies: a frame that has them -/
theorem arr_cg (cI : ClassId) {N : Nat} {f g : Nat → Value} (h : ∀ j, j < N → f j = g j) : arrV cI N f = arrV cI N g := by
  show ({ cls := cI, slots := Array.ofFn (n := N) fun j => f j.val, vm := .none } : Cell) = { cls := cI, slots := Array.ofFn (n := N) fun j => g j.val, vm := .none }
  have e : (fun j : Fin N => f j.val) = fun j : Fin N => g j.val := funext (fun j => h j.val j.isLt)
  rw [e]
def exG (f : Nat) : Prop := f < 8 ∨ f = 8 ∨ f = 9 ∨ f = 11
theorem ex_at {E1 E2 : cr_E} {S1 S2 : cr_S} {D : va_G} {H : Heap} {f j : Nat} (hc : E1.2.2.2 = E2.2.2.2) (ha : ∀ f j, f ≠ 10 → f ≠ 13 → E1.2.1 f j = E2.2.1 f j) (hl : exG f) (hS : S1.1 f = S2.1 f) (h : va_at D vwCl (E1.2.1 f j, cr_wc E1 S1 f j) H) : va_at D vwCl (E2.2.1 f j, cr_wc E2 S2 f j) H := by
  rcases hl with hf | rfl | rfl | rfl
  · have ha' : ∀ j, E1.2.1 f j = E2.2.1 f j := fun j => ha f j (by omega) (by omega)
    have e : cr_wc E1 S1 f j = cr_wc E2 S2 f j := by
      simp only [cr_wc, hf, if_true, hS]
      unfold cr_fc
      split <;> simp only [ha', hc]
    rw [ha', e] at h
    exact h
  · have n8 : ¬ (8 : Nat) < 8 := by omega
    rw [ha 8 j (by omega) (by omega)] at h
    simp only [cr_wc, n8, if_false, if_true, hS] at h ⊢
    match j, h with
    | 0, h => simpa only [cr_cc, ha _ _ (show (0 : Nat) ≠ 10 by omega) (show (0 : Nat) ≠ 13 by omega), ha _ _ (show (1 : Nat) ≠ 10 by omega) (show (1 : Nat) ≠ 13 by omega), ha _ _ (show (8 : Nat) ≠ 10 by omega) (show (8 : Nat) ≠ 13 by omega)] using h
    | 1, h =>
      have h' : H[E2.2.1 8 1]? = some (arrV (E1.2.2.2 2) 6 (fun j => va_rf (some (E1.2.1 (j + 2) 0)))) := h
      show H[E2.2.1 8 1]? = some (arrV (E2.2.2.2 2) 6 (fun j => va_rf (some (E2.2.1 (j + 2) 0))))
      rw [h', hc, arr_cg (g := fun j => va_rf (some (E2.2.1 (j + 2) 0))) (E2.2.2.2 2) (fun j hj => by rw [ha _ _ (by omega) (by omega)])]
    | 2, h => simpa only [cr_cc, ha _ _ (show (8 : Nat) ≠ 10 by omega) (show (8 : Nat) ≠ 13 by omega)] using h
    | 3, h => simpa only [cr_cc, hc] using h
    | t + 4, h => simpa only [cr_cc, hc] using h
  · have n8 : ¬ (9 : Nat) < 8 := by omega
    have n9 : ¬ (9 : Nat) = 8 := by omega
    have n11 : ¬ (9 : Nat) = 11 := by omega
    rw [ha 9 j (by omega) (by omega)] at h
    simp only [cr_wc, n8, n9, n11, if_false, hS] at h ⊢
    have e : cr_lc E1 (S2.1 9) j = cr_lc E2 (S2.1 9) j := by
      unfold cr_lc
      split <;> simp only [hc]
    rw [e] at h
    exact h
  · have n8 : ¬ (11 : Nat) < 8 := by omega
    have n9 : ¬ (11 : Nat) = 8 := by omega
    rw [ha 11 j (by omega) (by omega)] at h
    simp only [cr_wc, n8, n9, if_false, if_true, hS] at h ⊢
    have e : cr_kc E1 (S2.1 11) j = cr_kc E2 (S2.1 11) j := by
      unfold cr_kc
      split <;> simp only [hc]
    rw [e] at h
    exact h
/-- the frame with the copies, from this place on -/
def exE (E : cr_E) (h : Nat) : cr_E := (E.1, fun f j => if f = 10 then h + j else if f = 13 then 1 else E.2.1 f j, E.2.2.1, E.2.2.2)
theorem exE_a (E : cr_E) (h : Nat) {f : Nat} (j : Nat) (h1 : f ≠ 10) (h2 : f ≠ 13) : (exE E h).2.1 f j = E.2.1 f j := by
  show (if f = 10 then h + j else if f = 13 then 1 else E.2.1 f j) = _
  rw [if_neg h1, if_neg h2]
theorem exE_10 (E : cr_E) (h j : Nat) : (exE E h).2.1 10 j = h + j := rfl
theorem exE_fl (E : cr_E) (h : Nat) : cr_fl (exE E h) := rfl
theorem ex_lv {E : cr_E} {f j : Nat} (h : cr_lv E f j) (hn : ¬ cr_fl E) : exG f ∧ f ≠ 10 ∧ f ≠ 13 := by
  rcases h with ⟨h1, h2⟩ | ⟨h1, h2⟩ | ⟨h1, h2⟩ | ⟨h1, h2, h3⟩ | ⟨h1, h2⟩
  · exact ⟨Or.inl h1, by omega, by omega⟩
  · exact ⟨Or.inr (Or.inl h1), by omega, by omega⟩
  · exact ⟨Or.inr (Or.inr (Or.inl h1)), by omega, by omega⟩
  · exact absurd h3 hn
  · exact ⟨Or.inr (Or.inr (Or.inr h1)), by omega, by omega⟩
theorem ex_lvE {E : cr_E} {h f j : Nat} (hl : cr_lv (exE E h) f j) : (cr_lv E f j ∧ f ≠ 10) ∨ (f = 10 ∧ j < 4) := by
  rcases hl with ⟨h1, h2⟩ | ⟨h1, h2⟩ | ⟨h1, h2⟩ | ⟨h1, h2, h3⟩ | ⟨h1, h2⟩
  · exact Or.inl ⟨Or.inl ⟨h1, h2⟩, by omega⟩
  · exact Or.inl ⟨Or.inr (Or.inl ⟨h1, h2⟩), by omega⟩
  · exact Or.inl ⟨Or.inr (Or.inr (Or.inl ⟨h1, h2⟩)), by omega⟩
  · exact Or.inr ⟨h1, h2⟩
  · exact Or.inl ⟨Or.inr (Or.inr (Or.inr (Or.inr ⟨h1, h2⟩))), by omega⟩
theorem ex_lvF {E : cr_E} {h f j : Nat} (hl : cr_lv E f j) (hn : ¬ cr_fl E) : cr_lv (exE E h) f j := by
  rcases hl with ⟨h1, h2⟩ | ⟨h1, h2⟩ | ⟨h1, h2⟩ | ⟨h1, h2, h3⟩ | ⟨h1, h2⟩
  · exact Or.inl ⟨h1, h2⟩
  · exact Or.inr (Or.inl ⟨h1, h2⟩)
  · exact Or.inr (Or.inr (Or.inl ⟨h1, h2⟩))
  · exact absurd h3 hn
  · exact Or.inr (Or.inr (Or.inr (Or.inr ⟨h1, h2⟩)))
/-- the copies, each at its place, all zero -/
def cpN (j : Nat) : Nat := ([42, 22, 9, 14] : List Nat).getD j 0
theorem ex_WH {E : cr_E} {S : cr_S} {H0 H : Heap} (hn : ¬ cr_fl E) (hW : cr_WH E S H0) (hk : ∀ q, q < H0.size → H[q]? = H0[q]?) (hC : ∀ j, j < 4 → H[H0.size + j]? = some (arrV (E.2.2.2 0) (cpN j) (fun _ => .int 0))) : cr_WH (exE E H0.size) (cr_us S 10 (fun _ _ => 0)) H := by
  intro f j hl
  rcases ex_lvE hl with ⟨h1, h2⟩ | ⟨rfl, h2⟩
  · obtain ⟨g1, g2, g3⟩ := ex_lv h1 hn
    have h3 := hW f j h1
    have h4 : va_at E.1 vwCl (E.2.1 f j, cr_wc E S f j) H := h3.kept (hk _ h3.lt)
    exact ex_at (E1 := E) (E2 := exE E H0.size) (S1 := S) rfl (fun f j h1 h2 => (exE_a E _ j h1 h2).symm) g1 (cr_us_ne _ _ h2).symm h4
  · have h3 := hC j h2
    match j, h2, h3 with
    | 0, _, h3 => exact h3
    | 1, _, h3 => exact h3
    | 2, _, h3 => exact h3
    | 3, _, h3 => exact h3
theorem ex_WHb {E : cr_E} {S : cr_S} {h : Nat} {H : Heap} (hn : ¬ cr_fl E) (hW : cr_WH (exE E h) S H) : cr_WH E S H := by
  intro f j hl
  obtain ⟨g1, g2, g3⟩ := ex_lv hl hn
  exact ex_at (E1 := exE E h) (E2 := E) (S1 := S) rfl (fun f j h1 h2 => exE_a E _ j h1 h2) g1 rfl (hW f j (ex_lvF hl hn))
theorem ex_EK {E : cr_E} {S : cr_S} {H : Heap} (hEK : cr_EK E) (hn : ¬ cr_fl E) (hup : ∀ q, E.2.1 8 0 ≤ q → E.2.2.1 q) (hW : cr_WH E S H) : cr_EK (exE E H.size) := by
  have hlt : ∀ f j, cr_lv E f j → E.2.1 f j < H.size := fun f j hl => (hW f j hl).lt
  have h8 : E.2.1 8 0 < H.size := hlt 8 0 (cr_lv_8 (by omega))
  refine ⟨fun f j f' j' h1 h2 he => ?_, fun f j h1 => ?_⟩
  · rcases ex_lvE h1 with ⟨a1, a2⟩ | ⟨rfl, a2⟩ <;> rcases ex_lvE h2 with ⟨b1, b2⟩ | ⟨rfl, b2⟩
    · obtain ⟨-, a3, a4⟩ := ex_lv a1 hn
      obtain ⟨-, b3, b4⟩ := ex_lv b1 hn
      rw [exE_a E _ _ a3 a4, exE_a E _ _ b3 b4] at he
      exact hEK.1 f j f' j' a1 b1 he
    · obtain ⟨-, a3, a4⟩ := ex_lv a1 hn
      rw [exE_a E _ _ a3 a4, exE_10] at he
      have := hlt f j a1
      omega
    · obtain ⟨-, b3, b4⟩ := ex_lv b1 hn
      rw [exE_a E _ _ b3 b4, exE_10] at he
      have := hlt f' j' b1
      omega
    · rw [exE_10, exE_10] at he
      exact ⟨rfl, by omega⟩
  · rcases ex_lvE h1 with ⟨a1, a2⟩ | ⟨rfl, a2⟩
    · obtain ⟨-, a3, a4⟩ := ex_lv a1 hn
      rw [exE_a E _ _ a3 a4]
      exact hEK.2 f j a1
    · rw [exE_10]
      exact hup _ (by omega)
def cr_M4 {α : Type} (l : Launch) (E : cr_E) (y : MethodName) (ws : List Cond) (rm : Room) (av : List Value) (S : cr_S) (vw : α → Option Value × cr_S) (res : Option α) : Prop :=
  ∀ (a : α) (post : Option Value → cr_S → Prop), res = some a → post (vw a).1 (vw a).2 → Met l y ws rm (va_Pc av (fun U => cr_WU E S U)) (cr_Qc E post) 4 104 E.2.2.1
theorem k_arr_ahead : Cond.arrayClass .int ∈ wsL_ahead := List.mem_of_getElem? (i := 4) (by rfl)
section AH
variable {p : Program} {l : Launch} {e : Env} {R : Room} {s : State} {m : MethodId} {args : Array Value} {below : List Frame} {meth : Method} {c : Code} {Q : State → Prop}
/-- the four arrays are made -/
theorem ah_walk {cA : ClassId} {ls : Array Slot} {p1 : Int32} {b0 b2 b3 b4 b5 b6 b7 b8 : Nat} (hx : p.tables.exec = Jvm.exec) (hb : c.code = cL_ahead) (harr : (Cond.arrayClass .int).before args s = true) (hcls : ∀ c1 : ClassId, s.vm.findClass ("[" ++ (FieldType.int).toString) = some c1 → c1 = cA) (hR : 4 ≤ R.cells ∧ 104 ≤ R.slots) {h0 : Nat} (hh : s.heap.size = h0)
    (hl : lv_has ls 21 [(0, .ref b0), (1, .int p1), (2, .ref b2), (3, .ref b3), (4, .ref b4), (5, .ref b5), (6, .ref b6), (7, .ref b7), (8, .ref b8)])
    (kk : ∀ (H4 : Heap) (ls4 : Array Slot), h0 ≤ H4.size → (∀ q, q < h0 → H4[q]? = s.heap[q]?) → (∀ j, j < 4 → H4[h0 + j]? = some (arrV cA (cpN j) (fun _ => .int 0))) → lv_has ls4 21 [(0, .ref b0), (1, .int p1), (2, .ref b2), (3, .ref b3), (4, .ref b4), (5, .ref b5), (6, .ref b6), (7, .ref b7), (8, .ref b8), (9, .ref h0), (10, .ref (h0 + 1)), (11, .ref (h0 + 2)), (12, .ref (h0 + 3))] → W p l e R s m args below meth c H4 [] 4 104 Q (F0 m 24 ls4 [])) : W p l e R s m args below meth c s.heap [] 0 0 Q (F0 m 0 ls []) := by
  refine lv_bipush (v := (42 : Int32)) hx hb dL_ahead_0 (by decide) ?_
  refine va_newaK (atype := .int) (n := 42) (N := 42) (rest := []) hx hb harr rfl dL_ahead_2 rfl (by decide) (by decide) (by show 42 * 4 ≤ _; omega) (by omega) (by omega) hh (fun H1 c1 a1 z1 o1 _ n1 => ?_)
  obtain rfl := hcls c1 n1
  refine lv_astore (lv' := [(9, .ref h0), (0, .ref b0), (1, .int p1), (2, .ref b2), (3, .ref b3), (4, .ref b4), (5, .ref b5), (6, .ref b6), (7, .ref b7), (8, .ref b8)]) hx hb dL_ahead_4 hl (by decide) rfl (fun ls1 hl1 => ?_)
  refine lv_bipush (v := (22 : Int32)) hx hb dL_ahead_6 (by decide) ?_
  refine va_newaK (atype := .int) (n := 22) (N := 22) (rest := []) hx hb harr rfl dL_ahead_8 rfl (by decide) (by decide) (by show 22 * 4 ≤ _; omega) (by omega) (by omega) z1 (fun H2 c2 a2 z2 o2 _ n2 => ?_)
  obtain rfl := hcls c2 n2
  refine lv_astore (lv' := [(10, .ref (h0 + 1)), (9, .ref h0), (0, .ref b0), (1, .int p1), (2, .ref b2), (3, .ref b3), (4, .ref b4), (5, .ref b5), (6, .ref b6), (7, .ref b7), (8, .ref b8)]) hx hb dL_ahead_10 hl1 (by decide) rfl (fun ls2 hl2 => ?_)
  refine lv_bipush (v := (9 : Int32)) hx hb dL_ahead_12 (by decide) ?_
  refine va_newaK (atype := .int) (n := 9) (N := 9) (rest := []) hx hb harr rfl dL_ahead_14 rfl (by decide) (by decide) (by show 9 * 4 ≤ _; omega) (by omega) (by omega) z2 (fun H3 c3 a3 z3 o3 _ n3 => ?_)
  obtain rfl := hcls c3 n3
  refine lv_astore (lv' := [(11, .ref (h0 + 1 + 1)), (10, .ref (h0 + 1)), (9, .ref h0), (0, .ref b0), (1, .int p1), (2, .ref b2), (3, .ref b3), (4, .ref b4), (5, .ref b5), (6, .ref b6), (7, .ref b7), (8, .ref b8)]) hx hb dL_ahead_16 hl2 (by decide) rfl (fun ls3 hl3 => ?_)
  refine lv_bipush (v := (14 : Int32)) hx hb dL_ahead_18 (by decide) ?_
  refine va_newaK (atype := .int) (n := 14) (N := 14) (rest := []) hx hb harr rfl dL_ahead_20 rfl (by decide) (by decide) (by show 14 * 4 ≤ _; omega) (by omega) (by omega) z3 (fun H4 c4 a4 z4 o4 _ n4 => ?_)
  obtain rfl := hcls c4 n4
  refine lv_astore (lv' := [(12, .ref (h0 + 1 + 1 + 1)), (11, .ref (h0 + 1 + 1)), (10, .ref (h0 + 1)), (9, .ref h0), (0, .ref b0), (1, .int p1), (2, .ref b2), (3, .ref b3), (4, .ref b4), (5, .ref b5), (6, .ref b6), (7, .ref b7), (8, .ref b8)]) hx hb dL_ahead_22 hl3 (by decide) rfl (fun ls4 hl4 => ?_)
  refine W.widen (k := 4) (n := 104) (by omega) (by omega) (kk H4 ls4 (by omega) (fun q hq => ?_) (fun j hj => ?_) (lv_sub hl4 [4, 5, 6, 7, 8, 9, 10, 11, 12, 3, 2, 1, 0] rfl))
  · rw [o4 q (by omega), o3 q (by omega), o2 q (by omega), o1 q hq]
  · have h9 : j = 0 ∨ j = 1 ∨ j = 2 ∨ j = 3 := by omega
    rcases h9 with rfl | rfl | rfl | rfl
    · rw [o4 _ (by omega), o3 _ (by omega), o2 _ (by omega)]; exact a1
    · rw [o4 _ (by omega), o3 _ (by omega)]; exact a2
    · rw [o4 _ (by omega)]; exact a3
    · exact a4
end AH
