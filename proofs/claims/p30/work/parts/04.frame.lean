/-! The frame of this proof: the cells of the system at fixed places, and a judgement that speaks of what they hold (our own text). -/
abbrev cr_E : Type := va_G × (Nat → Nat → Nat) × (Nat → Prop) × (Nat → ClassId)
abbrev cr_G : Type := Nat → Nat → Int32
abbrev cr_S : Type := (Nat → cr_G) × (Nat → Int64)
abbrev cr_C : Type := Program × Launch × Env × Room × State × MethodId × Array Value × List Frame × Method × Code
def cr_pa (G : cr_G) (j : Nat) (h : Nat → Int32) : cr_G := fun j' => if j' = j then h else G j'
def cr_pt (G : cr_G) (j i : Nat) (v : Int32) : cr_G := cr_pa G j (upd (G j) i v)
def cr_us (S : cr_S) (f : Nat) (G : cr_G) : cr_S := (fun f' => if f' = f then G else S.1 f', S.2)
def cr_ul (S : cr_S) (k : Nat) (v : Int64) : cr_S := (S.1, vp_updL S.2 k v)
theorem cr_us_eq (S : cr_S) (f : Nat) (G : cr_G) : (cr_us S f G).1 f = G := by simp [cr_us]
theorem cr_us_ne (S : cr_S) {f g : Nat} (G : cr_G) (h : g ≠ f) : (cr_us S f G).1 g = S.1 g := by simp [cr_us, h]
theorem cr_us_us (S : cr_S) (f : Nat) (G G' : cr_G) : cr_us (cr_us S f G) f G' = cr_us S f G' := by
  simp only [cr_us, Prod.mk.injEq, and_true]
  funext f'
  by_cases h : f' = f <;> simp [h]
theorem cr_us_self (S : cr_S) (f : Nat) : cr_us S f (S.1 f) = S := by
  obtain ⟨a, b⟩ := S
  simp only [cr_us, Prod.mk.injEq, and_true]
  funext f'
  by_cases h : f' = f <;> simp [h]
/-- the cells of a farm, of the campaign, of the reference, of the law -/
def cr_fc (E : cr_E) (f : Nat) (G : cr_G) (j : Nat) : va_E := match j with
  | 0 => .inr (2, [.ref (E.2.1 f 1), .int (G 0 1), .ref (E.2.1 f 2), .ref (E.2.1 f 5), .ref (E.2.1 f 8), .ref (E.2.1 f 10), .ref (E.2.1 f 11), .ref (E.2.1 f 13), .ref (E.2.1 f 14), .int (G 0 9)])
  | 1 => .inl (E.2.2.2 3, 10, .inr (.inr (.inr (.inr (fun t => some (E.2.1 f (t + 15)))))))
  | 2 => .inr (0, [.ref (E.2.1 f 3), .ref (E.2.1 f 4), .int (G 2 2)])
  | 3 => .inl (E.2.2.2 0, 6, .inl (G 3))
  | 4 => .inl (E.2.2.2 0, 6, .inl (G 4))
  | 5 => .inr (3, [.ref (E.2.1 f 6), .ref (E.2.1 f 7), .int (G 5 2)])
  | 6 => .inl (E.2.2.2 0, 10, .inl (G 6))
  | 7 => .inl (E.2.2.2 0, 10, .inl (G 7))
  | 8 => .inr (4, [.ref (E.2.1 f 9), .int (G 8 1)])
  | 9 => .inl (E.2.2.2 0, 10, .inl (G 9))
  | 10 => .inr (1, [.int (G 10 0), .int (G 10 1), .int (G 10 2), .int (G 10 3), .int (G 10 4)])
  | 11 => .inr (7, [.ref (E.2.1 f 12), .int (G 11 1)])
  | 12 => .inl (E.2.2.2 0, 48, .inl (G 12))
  | 13 => .inl (E.2.2.2 0, 7, .inl (G 13))
  | 14 => .inl (E.2.2.2 0, 5, .inl (G 14))
  | t + 15 => .inr (5, [.int (G (t + 15) 0), .int (G (t + 15) 1), .int (G (t + 15) 2), .int (G (t + 15) 3), .int (G (t + 15) 4), .int (G (t + 15) 5), .int (G (t + 15) 6)])
def cr_cc (E : cr_E) (G : cr_G) (j : Nat) : va_E := match j with
  | 0 => .inr (8, [.ref (E.2.1 0 0), .ref (E.2.1 1 0), .ref (E.2.1 8 1), .int (G 0 3), .int (G 0 4), .ref (E.2.1 8 2)])
  | 1 => .inl (E.2.2.2 2, 6, .inr (.inr (.inr (.inr (fun k => some (E.2.1 (k + 2) 0))))))
  | 2 => .inr (6, [.ref (E.2.1 8 3), .int (G 2 1)])
  | 3 => .inl (E.2.2.2 0, 60, .inl (G 3))
  | t + 4 => .inl (E.2.2.2 0, 0, .inl (G (t + 4)))
/-- the law's own rows (42, 22, 9, 14 ints), and those that it reads alone (50, 7, 16) -/
def cr_lc (E : cr_E) (G : cr_G) (j : Nat) : va_E := match j with
  | 0 => .inl (E.2.2.2 0, 42, .inl (G 0))
  | 1 => .inl (E.2.2.2 0, 22, .inl (G 1))
  | 2 => .inl (E.2.2.2 0, 9, .inl (G 2))
  | 3 => .inl (E.2.2.2 0, 14, .inl (G 3))
  | t + 4 => .inl (E.2.2.2 0, 0, .inl (G (t + 4)))
def cr_kc (E : cr_E) (G : cr_G) (j : Nat) : va_E := match j with
  | 0 => .inl (E.2.2.2 0, 50, .inl (G 0))
  | 1 => .inl (E.2.2.2 0, 7, .inl (G 1))
  | 2 => .inl (E.2.2.2 0, 16, .inl (G 2))
  | t + 3 => .inl (E.2.2.2 0, 0, .inl (G (t + 3)))
/-- the copies (row 10) are there where the mark says so -/
def cr_fl (E : cr_E) : Prop := E.2.1 13 0 = 1
def cr_lv (E : cr_E) (f j : Nat) : Prop := (f < 8 ∧ j < 25) ∨ (f = 8 ∧ j < 4) ∨ (f = 9 ∧ j < 4) ∨ (f = 10 ∧ j < 4 ∧ cr_fl E) ∨ (f = 11 ∧ j < 3)
def cr_wc (E : cr_E) (S : cr_S) (f j : Nat) : va_E :=
  if f < 8 then cr_fc E f (S.1 f) j else if f = 8 then cr_cc E (S.1 8) j else if f = 11 then cr_kc E (S.1 11) j else cr_lc E (S.1 f) j
def cr_at (E : cr_E) (S : cr_S) (f j : Nat) (e : va_E) : Prop := cr_lv E f j ∧ cr_wc E S f j = e
def cr_WH (E : cr_E) (S : cr_S) (H : Heap) : Prop := ∀ f j, cr_lv E f j → va_at E.1 vwCl (E.2.1 f j, cr_wc E S f j) H
def cr_EK (E : cr_E) : Prop := (∀ f j f' j', cr_lv E f j → cr_lv E f' j' → E.2.1 f j = E.2.1 f' j' → f = f' ∧ j = j') ∧ ∀ f j, cr_lv E f j → E.2.2.1 (E.2.1 f j)
def cr_tys (E : cr_E) : List (ClassId × FieldType) := [(E.2.2.2 0, .int), (E.2.2.2 0, .int), (E.2.2.2 2, .object "CraneCampaign$Farm"), (E.2.2.2 3, .object "CraneCampaign$Turbine")]
theorem cr_lv_f {E : cr_E} {f j : Nat} (hf : f < 8) (hj : j < 25) : cr_lv E f j := Or.inl ⟨hf, hj⟩
theorem cr_lv_8 {E : cr_E} {j : Nat} (hj : j < 4) : cr_lv E 8 j := Or.inr (Or.inl ⟨rfl, hj⟩)
theorem cr_lv_9 {E : cr_E} {j : Nat} (hj : j < 4) : cr_lv E 9 j := Or.inr (Or.inr (Or.inl ⟨rfl, hj⟩))
theorem cr_lv_10 {E : cr_E} (hf : cr_fl E) {j : Nat} (hj : j < 4) : cr_lv E 10 j := Or.inr (Or.inr (Or.inr (Or.inl ⟨rfl, hj, hf⟩)))
theorem cr_lv_11 {E : cr_E} {j : Nat} (hj : j < 3) : cr_lv E 11 j := Or.inr (Or.inr (Or.inr (Or.inr ⟨rfl, hj⟩)))
/-- a row of the law's numbers: its own, or the copies -/
def cr_g (E : cr_E) (f : Nat) : Prop := f = 9 ∨ (f = 10 ∧ cr_fl E)
theorem cr_g9 (E : cr_E) : cr_g E 9 := Or.inl rfl
theorem cr_g10 {E : cr_E} (h : cr_fl E) : cr_g E 10 := Or.inr ⟨rfl, h⟩
theorem cr_gne {E : cr_E} {f : Nat} (h : cr_g E f) : (11 : Nat) ≠ f := by
  rcases h with rfl | ⟨rfl, -⟩ <;> omega
theorem cr_gne9 : (9 : Nat) ≠ 10 := by omega
theorem cr_lv_g {E : cr_E} {f j : Nat} (h : cr_g E f) (hj : j < 4) : cr_lv E f j := by
  rcases h with rfl | ⟨rfl, hf⟩
  · exact cr_lv_9 hj
  · exact cr_lv_10 hf hj
theorem cr_wc_g {E : cr_E} {f j : Nat} (h : cr_g E f) (S : cr_S) : cr_wc E S f j = cr_lc E (S.1 f) j := by
  rcases h with rfl | ⟨rfl, -⟩ <;> rfl
theorem cr_atf {E : cr_E} {S : cr_S} {f j : Nat} {G : cr_G} (hf : f < 8) (hj : j < 25) (hG : S.1 f = G) : cr_at E S f j (cr_fc E f G j) := ⟨cr_lv_f hf hj, by simp only [cr_wc, hf, if_true, hG]⟩
theorem cr_at8 {E : cr_E} {S : cr_S} {j : Nat} {G : cr_G} (hj : j < 4) (hG : S.1 8 = G) : cr_at E S 8 j (cr_cc E G j) := ⟨cr_lv_8 hj, by subst hG; rfl⟩
/-- a cell depends on its own row alone (two of them on the longs) -/
theorem cr_wc_congr {E : cr_E} {S S' : cr_S} {f j : Nat} (h : S'.1 f j = S.1 f j) (_h2 : S'.2 = S.2) : cr_wc E S' f j = cr_wc E S f j := by
  unfold cr_wc
  by_cases h8 : f < 8
  · simp only [h8, if_true]
    unfold cr_fc
    split <;> first | rfl | (simp only [h])
  · simp only [h8, if_false]
    by_cases h9 : f = 8
    · subst h9
      simp only [if_true]
      unfold cr_cc
      split <;> first | rfl | (simp only [h])
    · simp only [h9, if_false]
      by_cases h10 : f = 11
      · subst h10
        simp only [if_true]
        unfold cr_kc
        split <;> first | rfl | (simp only [h])
      · simp only [h10, if_false]
        unfold cr_lc
        split <;> first | rfl | (simp only [h])

/-- what the statics hold that lie outside of the system's cells -/
def cr_SA (n d : String) (N : Nat) (f : Nat → Int32) (E : cr_E) (U : State) : Prop := ∃ b : Nat, va_Z "CraneCampaign" n d (.ref b) E.2.2.1 U U.heap ∧ va_T .int b N (fun j => .int (f j)) E.2.2.1 U U.heap
def cr_c0 : Nat → Int32 := fun k => ([16, 5, 3, 24, 2, 10, 0] : List Int32).getD k 0
def cr_c1 : Nat → Int32 := fun k => ([5, 1, 1, 1, 0, 1, 0] : List Int32).getD k 0
def cr_c2 : Nat → Int32 := fun k => ([25, 20, 12, 200, 10, 100, 50] : List Int32).getD k 0
def cr_SF (E : cr_E) (U : State) : Prop :=
  cr_SA "SETTING_AT_FIRST" "[I" 7 cr_c0 E U ∧ cr_SA "SETTING_LOWEST" "[I" 7 cr_c1 E U ∧ cr_SA "SETTING_HIGHEST" "[I" 7 cr_c2 E U
theorem cr_SA.kept {n d : String} {N : Nat} {f : Nat → Int32} {E : cr_E} {u U : State} (h : cr_SA n d N f E u) (hvm : u.vm.Alike U.vm) (hz : u.heap.size ≤ U.heap.size) (hq : ∀ a : Nat, a < u.heap.size → ¬ E.2.2.1 a → U.heap[a]? = u.heap[a]?) : cr_SA n d N f E U := by
  obtain ⟨b, h1, h2⟩ := h
  exact ⟨b, va_Z.moved hvm (h1.kept hq), va_T.moved hvm (h2.kept hq)⟩
theorem cr_SF.kept {E : cr_E} {u U : State} (h : cr_SF E u) (hW : u.WarmedH U.vm) (hz : u.heap.size ≤ U.heap.size) (hq : ∀ a : Nat, a < u.heap.size → ¬ E.2.2.1 a → U.heap[a]? = u.heap[a]?) : cr_SF E U := by
  obtain ⟨h1, h2, h3⟩ := h
  have hvm := hW.alike
  exact ⟨h1.kept hvm hz hq, h2.kept hvm hz hq, h3.kept hvm hz hq⟩
def cr_WU (E : cr_E) (S : cr_S) (U : State) : Prop := cr_WH E S U.heap ∧ va_K E.1 vwCl (cr_tys E) U ∧ cr_SF E U
theorem cr_WU.of {E : cr_E} {S : cr_S} {s U : State} (hW : cr_WH E S U.heap) (hK : va_K E.1 vwCl (cr_tys E) s) (hSF : cr_SF E s) (hvm : s.WarmedH U.vm) {locs : List Loc} (hS : va_S E.2.2.1 s.heap U.heap locs) : cr_WU E S U :=
  ⟨hW, va_K.moved hvm.alike hK, hSF.kept hvm hS.1 hS.2.1⟩
theorem cr_blind (E : cr_E) (S : cr_S) (av : List Value) : FrameBlind (va_Pc av (fun U => cr_WU E S U)) := by
  intro a U g mk h
  obtain ⟨h1, h2, h3, h4⟩ := h
  exact ⟨h1, h2, va_K.moved (u := U) (U := U.calling g mk a) (Vm.Alike.refl U.vm) h3, h4.kept (u := U) (U := U.calling g mk a) (State.WarmedH.refl U) (Nat.le_refl _) (fun _ _ _ => rfl)⟩
/-- the ends of a method: it returns, the cells hold S', nothing else has changed -/
def cr_Qc (E : cr_E) (post : Option Value → cr_S → Prop) : Array Value → State → Outcome → State → Prop := fun _ st oc t => (∃ (v : Option Value) (S' : cr_S), oc = .returned v ∧ post v S' ∧ cr_WH E S' t.heap) ∧ va_F E.2.2.1 st t
def cr_Qn (Γ : cr_C) (E : cr_E) (post : Option Value → cr_S → Prop) : State → Prop := MQ Γ.2.2.2.2.2.2.2.1 (cr_Qc E post) Γ.2.2.2.2.2.2.1 Γ.2.2.2.2.1 0 0 E.2.2.1
def cr_W (Γ : cr_C) (E : cr_E) (Q : State → Prop) (kc ks nL : Nat) (S : cr_S) (pc : Nat) (lv : List (Nat × Value)) (st : List Value) : Prop :=
  ∀ (H : Heap) (locs : List Loc) (ls : Array Slot), cr_WH E S H → va_S E.2.2.1 Γ.2.2.2.2.1.heap H locs → lv_has ls nL lv →
    W Γ.1 Γ.2.1 Γ.2.2.1 Γ.2.2.2.1 Γ.2.2.2.2.1 Γ.2.2.2.2.2.1 Γ.2.2.2.2.2.2.1 Γ.2.2.2.2.2.2.2.1 Γ.2.2.2.2.2.2.2.2.1 Γ.2.2.2.2.2.2.2.2.2 H locs kc ks Q (F0 Γ.2.2.2.2.2.1 pc ls st)
/-- what a walk of a body knows -/
def cr_X (Γ : cr_C) (E : cr_E) (cc : ByteArray) (nL : Nat) (own : String) (Ts : List Cond) (rm : Room) (rt : Option FieldType) : Prop :=
  Γ.1.tables.exec = Jvm.exec ∧ Γ.2.2.2.2.2.2.2.2.2.code = cc ∧ Γ.2.2.2.2.2.2.2.2.2.maxLocals = nL ∧ Γ.2.2.2.2.1.vm.findClass own = some Γ.2.2.2.2.2.1.cls ∧ (∀ w ∈ Ts, w.before Γ.2.2.2.2.2.2.1 Γ.2.2.2.2.1 = true) ∧
  va_K E.1 vwCl (cr_tys E) Γ.2.2.2.2.1 ∧ cr_EK E ∧ cr_SF E Γ.2.2.2.2.1 ∧ Γ.2.2.2.2.2.2.2.2.1.locks = false ∧ Γ.2.2.2.1 = rm ∧ Γ.2.2.2.2.2.2.2.2.1.sig.returnType = rt
/-- a walk that comes to the result res, if there is one; Φ a Q: what is owed at the end for the result a -/
def cr_P {α : Type} (Γ : cr_C) (E : cr_E) (nL : Nat) (Φ : α → (State → Prop) → Prop) (kc ks : Nat) (S : cr_S) (pc : Nat) (lv : List (Nat × Value)) (st : List Value) (res : Option α) : Prop :=
  ∀ (Q : State → Prop) (a : α), res = some a → Φ a Q → cr_W Γ E Q kc ks nL S pc lv st
/-- the end of a method that returns, by the view of its result -/
def cr_F {α : Type} (Γ : cr_C) (E : cr_E) (vw : α → Option Value × cr_S) : α → (State → Prop) → Prop := fun a Q => ∃ post : Option Value → cr_S → Prop, Q = cr_Qn Γ E post ∧ post (vw a).1 (vw a).2
def cr_gd {α : Type} (b : Bool) (r : Option α) : Option α := bif b then r else none
def cr_bd {α β : Type} (v : α) (k : α → β) : β := k v
def cr_cl {α β : Type} (o : Option α) (k : α → Option β) : Option β := match o with
  | none => none
  | some a => k a
def cr_in (i : Int32) (n : Nat) : Bool := decide (¬ (i < 0 ∨ n ≤ i.toNatClampNeg))
def cr_nz (y : Int32) : Bool := decide (¬ y = 0)
def cr_b (b : Bool) : Int32 := bif b then 1 else 0
def cr_max (x y : Int32) : Int32 := if x < y then y else x
def cr_min (x y : Int32) : Int32 := if y < x then y else x
def cr_abs (x : Int32) : Int32 := if 0 ≤ x then x else 0 - x
/-- contracts -/
def cr_M {α : Type} (l : Launch) (E : cr_E) (y : MethodName) (ws : List Cond) (rm : Room) (av : List Value) (S : cr_S) (vw : α → Option Value × cr_S) (res : Option α) : Prop :=
  ∀ (a : α) (post : Option Value → cr_S → Prop), res = some a → post (vw a).1 (vw a).2 → Met l y ws rm (va_Pc av (fun U => cr_WU E S U)) (cr_Qc E post) 0 0 E.2.2.1
/-- a cell as a function of its row and of the longs -/
def cr_ac (E : cr_E) (f j : Nat) (cf : (Nat → Int64) → (Nat → Int32) → va_E) : Prop := cr_lv E f j ∧ ∀ S : cr_S, cr_wc E S f j = cf S.2 (S.1 f j)
theorem cr_ac.at {E : cr_E} {f j : Nat} {cf : (Nat → Int64) → (Nat → Int32) → va_E} {S : cr_S} {h : Nat → Int32} {e : va_E} (ha : cr_ac E f j cf) (hr : S.1 f j = h) (he : cf S.2 h = e) : cr_at E S f j e := ⟨ha.1, by rw [ha.2 S, hr]; exact he⟩
theorem cr_row (S0 : cr_S) (f : Nat) (G : cr_G) (j : Nat) : (cr_us S0 f G).1 f j = G j := by rw [cr_us_eq]
theorem cr_rowo (S0 : cr_S) {f g : Nat} (G : cr_G) (h : g ≠ f) (j : Nat) : (cr_us S0 f G).1 g j = S0.1 g j := by rw [cr_us_ne S0 G h]
theorem cr_a0 (E : cr_E) {f : Nat} (hf : f < 8) : cr_ac E f 0 (fun _ h => .inr (2, [.ref (E.2.1 f 1), .int (h 1), .ref (E.2.1 f 2), .ref (E.2.1 f 5), .ref (E.2.1 f 8), .ref (E.2.1 f 10), .ref (E.2.1 f 11), .ref (E.2.1 f 13), .ref (E.2.1 f 14), .int (h 9)])) := ⟨cr_lv_f hf (by decide), fun S => by simp only [cr_wc, hf, if_true, cr_fc]⟩
theorem cr_a1 (E : cr_E) {f : Nat} (hf : f < 8) : cr_ac E f 1 (fun _ h => .inl (E.2.2.2 3, 10, .inr (.inr (.inr (.inr (fun t => some (E.2.1 f (t + 15)))))))) := ⟨cr_lv_f hf (by decide), fun S => by simp only [cr_wc, hf, if_true, cr_fc]⟩
theorem cr_a2 (E : cr_E) {f : Nat} (hf : f < 8) : cr_ac E f 2 (fun _ h => .inr (0, [.ref (E.2.1 f 3), .ref (E.2.1 f 4), .int (h 2)])) := ⟨cr_lv_f hf (by decide), fun S => by simp only [cr_wc, hf, if_true, cr_fc]⟩
theorem cr_a3 (E : cr_E) {f : Nat} (hf : f < 8) : cr_ac E f 3 (fun _ h => .inl (E.2.2.2 0, 6, .inl h)) := ⟨cr_lv_f hf (by decide), fun S => by simp only [cr_wc, hf, if_true, cr_fc]⟩
theorem cr_a4 (E : cr_E) {f : Nat} (hf : f < 8) : cr_ac E f 4 (fun _ h => .inl (E.2.2.2 0, 6, .inl h)) := ⟨cr_lv_f hf (by decide), fun S => by simp only [cr_wc, hf, if_true, cr_fc]⟩
theorem cr_a5 (E : cr_E) {f : Nat} (hf : f < 8) : cr_ac E f 5 (fun _ h => .inr (3, [.ref (E.2.1 f 6), .ref (E.2.1 f 7), .int (h 2)])) := ⟨cr_lv_f hf (by decide), fun S => by simp only [cr_wc, hf, if_true, cr_fc]⟩
theorem cr_a6 (E : cr_E) {f : Nat} (hf : f < 8) : cr_ac E f 6 (fun _ h => .inl (E.2.2.2 0, 10, .inl h)) := ⟨cr_lv_f hf (by decide), fun S => by simp only [cr_wc, hf, if_true, cr_fc]⟩
theorem cr_a7 (E : cr_E) {f : Nat} (hf : f < 8) : cr_ac E f 7 (fun _ h => .inl (E.2.2.2 0, 10, .inl h)) := ⟨cr_lv_f hf (by decide), fun S => by simp only [cr_wc, hf, if_true, cr_fc]⟩
theorem cr_a8 (E : cr_E) {f : Nat} (hf : f < 8) : cr_ac E f 8 (fun _ h => .inr (4, [.ref (E.2.1 f 9), .int (h 1)])) := ⟨cr_lv_f hf (by decide), fun S => by simp only [cr_wc, hf, if_true, cr_fc]⟩
theorem cr_a9 (E : cr_E) {f : Nat} (hf : f < 8) : cr_ac E f 9 (fun _ h => .inl (E.2.2.2 0, 10, .inl h)) := ⟨cr_lv_f hf (by decide), fun S => by simp only [cr_wc, hf, if_true, cr_fc]⟩
theorem cr_a10 (E : cr_E) {f : Nat} (hf : f < 8) : cr_ac E f 10 (fun _ h => .inr (1, [.int (h 0), .int (h 1), .int (h 2), .int (h 3), .int (h 4)])) := ⟨cr_lv_f hf (by decide), fun S => by simp only [cr_wc, hf, if_true, cr_fc]⟩
theorem cr_a11 (E : cr_E) {f : Nat} (hf : f < 8) : cr_ac E f 11 (fun _ h => .inr (7, [.ref (E.2.1 f 12), .int (h 1)])) := ⟨cr_lv_f hf (by decide), fun S => by simp only [cr_wc, hf, if_true, cr_fc]⟩
theorem cr_a12 (E : cr_E) {f : Nat} (hf : f < 8) : cr_ac E f 12 (fun _ h => .inl (E.2.2.2 0, 48, .inl h)) := ⟨cr_lv_f hf (by decide), fun S => by simp only [cr_wc, hf, if_true, cr_fc]⟩
theorem cr_a13 (E : cr_E) {f : Nat} (hf : f < 8) : cr_ac E f 13 (fun _ h => .inl (E.2.2.2 0, 7, .inl h)) := ⟨cr_lv_f hf (by decide), fun S => by simp only [cr_wc, hf, if_true, cr_fc]⟩
theorem cr_a14 (E : cr_E) {f : Nat} (hf : f < 8) : cr_ac E f 14 (fun _ h => .inl (E.2.2.2 0, 5, .inl h)) := ⟨cr_lv_f hf (by decide), fun S => by simp only [cr_wc, hf, if_true, cr_fc]⟩
theorem cr_aT (E : cr_E) {f t : Nat} (hf : f < 8) (ht : t < 10) : cr_ac E f (t + 15) (fun _ h => .inr (5, [.int (h 0), .int (h 1), .int (h 2), .int (h 3), .int (h 4), .int (h 5), .int (h 6)])) := ⟨cr_lv_f hf (by omega), fun S => by simp only [cr_wc, hf, if_true, cr_fc]⟩
theorem cr_b0 (E : cr_E) : cr_ac E 8 0 (fun _ h => .inr (8, [.ref (E.2.1 0 0), .ref (E.2.1 1 0), .ref (E.2.1 8 1), .int (h 3), .int (h 4), .ref (E.2.1 8 2)])) := ⟨cr_lv_8 (by decide), fun S => rfl⟩
theorem cr_b1 (E : cr_E) : cr_ac E 8 1 (fun _ h => .inl (E.2.2.2 2, 6, .inr (.inr (.inr (.inr (fun k => some (E.2.1 (k + 2) 0))))))) := ⟨cr_lv_8 (by decide), fun S => rfl⟩
theorem cr_b2 (E : cr_E) : cr_ac E 8 2 (fun _ h => .inr (6, [.ref (E.2.1 8 3), .int (h 1)])) := ⟨cr_lv_8 (by decide), fun S => rfl⟩
theorem cr_b3 (E : cr_E) : cr_ac E 8 3 (fun _ h => .inl (E.2.2.2 0, 60, .inl h)) := ⟨cr_lv_8 (by decide), fun S => rfl⟩
theorem cr_n0 (E : cr_E) {f : Nat} (hf : cr_g E f) : cr_ac E f 0 (fun _ h => .inl (E.2.2.2 0, 42, .inl h)) := ⟨cr_lv_g hf (by decide), fun S => cr_wc_g hf S⟩
theorem cr_n1 (E : cr_E) {f : Nat} (hf : cr_g E f) : cr_ac E f 1 (fun _ h => .inl (E.2.2.2 0, 22, .inl h)) := ⟨cr_lv_g hf (by decide), fun S => cr_wc_g hf S⟩
theorem cr_n2 (E : cr_E) {f : Nat} (hf : cr_g E f) : cr_ac E f 2 (fun _ h => .inl (E.2.2.2 0, 9, .inl h)) := ⟨cr_lv_g hf (by decide), fun S => cr_wc_g hf S⟩
theorem cr_n3 (E : cr_E) {f : Nat} (hf : cr_g E f) : cr_ac E f 3 (fun _ h => .inl (E.2.2.2 0, 14, .inl h)) := ⟨cr_lv_g hf (by decide), fun S => cr_wc_g hf S⟩
theorem cr_k0 (E : cr_E) : cr_ac E 11 0 (fun _ h => .inl (E.2.2.2 0, 50, .inl h)) := ⟨cr_lv_11 (by decide), fun S => rfl⟩
theorem cr_k1 (E : cr_E) : cr_ac E 11 1 (fun _ h => .inl (E.2.2.2 0, 7, .inl h)) := ⟨cr_lv_11 (by decide), fun S => rfl⟩
theorem cr_k2 (E : cr_E) : cr_ac E 11 2 (fun _ h => .inl (E.2.2.2 0, 16, .inl h)) := ⟨cr_lv_11 (by decide), fun S => rfl⟩
