/-- the end of ahead: it returns, the copies are forgotten -/
def ahQ (E : cr_E) (args : Array Value) (s : State) (below : List Frame) : Bool × cr_S → (State → Prop) → Prop := fun a Q => ∃ post : Option Value → cr_S → Prop, Q = MQ below (cr_Qc E post) args s 4 104 E.2.2.1 ∧ post (some (.int (cr_b a.1))) a.2
theorem ah_end {p : Program} {l : Launch} {e : Env} {R : Room} {s : State} {m : MethodId} {args : Array Value} {below : List Frame} {meth : Method} {c : Code} {E : cr_E} {h : Nat} (hnf : ¬ cr_fl E) (hx : p.tables.exec = Jvm.exec) (hb : c.code = cL_ahead) (hrt : meth.sig.returnType = some .boolean) (hlk : meth.locks = false) (b : Bool) (S : cr_S) (pc : Nat) (lv : List (Nat × Value)) (hd : decode cL_ahead pc = .ok (.ireturn, 1)) : cr_P (p, l, e, R, s, m, args, below, meth, c) (exE E h) 21 (ahQ E args s below) 4 104 S pc lv [.int (cr_b b)] (some (b, S)) := by
  intro Q a9 e9 ⟨post9, hQ, hp⟩ H9 locs9 ls9 hW9 hS9 hls9
  cases e9
  subst hQ
  exact W.zret (ty := .boolean) (v := cr_b b) hx hb hrt (by cases b <;> rfl) (fun t ht hWm => ⟨⟨_, _, rfl, hp, by rw [ht]; exact ex_WHb hnf hW9⟩, hS9.F ht⟩) (fun q hq => hS9.2.2 q hq) hd hlk
theorem ah_rest {p : Program} {l : Launch} {e : Env} {s : State} {m : MethodId} {args : Array Value} {below : List Frame} {meth : Method} {c : Code} {E : cr_E} (hnf : ¬ cr_fl E) (X : cr_X (p, l, e, rm_L_ahead, s, m, args, below, meth, c) (exE E s.heap.size) cL_ahead 21 RL wsL_ahead rm_L_ahead (some .boolean)) (S : cr_S) (p1 : Int32) (a : Bool × cr_S) (h1 : s_L_ahead p1 S = some a) (post : Option Value → cr_S → Prop) (h2 : post (some (.int (cr_b a.1))) a.2) {H4 : Heap} {ls4 : Array Slot} (hW : cr_WH (exE E s.heap.size) S H4) (hS : va_S E.2.2.1 s.heap H4 [])
    (hl : lv_has ls4 21 [(0, .ref (E.2.1 8 0)), (1, .int p1), (2, .ref (E.2.1 9 0)), (3, .ref (E.2.1 9 1)), (4, .ref (E.2.1 9 2)), (5, .ref (E.2.1 11 0)), (6, .ref (E.2.1 11 1)), (7, .ref (E.2.1 11 2)), (8, .ref (E.2.1 9 3)), (9, .ref s.heap.size), (10, .ref (s.heap.size + 1)), (11, .ref (s.heap.size + 2)), (12, .ref (s.heap.size + 3))]) : W p l e rm_L_ahead s m args below meth c H4 [] 4 104 (MQ below (cr_Qc E post) args s 4 104 E.2.2.1) (F0 m 24 ls4 []) := by
  have hP := b_L_ahead X (exE_fl E _) (Φ := ahQ E args s below) (fun b S9 pc lv hd => ah_end hnf X.1 X.2.1 X.2.2.2.2.2.2.2.2.2.2 X.2.2.2.2.2.2.2.2.1 b S9 pc lv hd) S p1
  exact hP (MQ below (cr_Qc E post) args s 4 104 E.2.2.1) a h1 ⟨post, rfl, h2⟩ H4 [] ls4 hW hS hl
theorem ah_cls {E : cr_E} {s : State} (hK : va_K E.1 vwCl (cr_tys E) s) (cA : ClassId) (hA : s.vm.findClass ("[" ++ (FieldType.int).toString) = some cA) : cA = E.2.2.2 0 := by
  have h2 : va_RA s (E.2.2.2 0) .int := (hK.2 0 _ rfl).2
  exact Option.some.inj (Eq.trans (Eq.symm hA) h2)
