def cr_ncs : List (String × String) := [("java/lang/IllegalStateException","java/lang/IllegalArgumentException"), ("java/lang/IllegalArgumentException","java/lang/IndexOutOfBoundsException"), ("java/lang/IllegalStateException","java/lang/IndexOutOfBoundsException")]
/-- none of these classes is one of those -/
def cr_NC (U : State) : Prop := ∀ q ∈ cr_ncs, va_Nc q.1 q.2 U
theorem cr_NC.moved {u U : State} (hvm : u.vm.Alike U.vm) (h : cr_NC u) : cr_NC U := fun q hq => va_Nc.moved hvm (h q hq)
def cr_WN (E : cr_E) (S : cr_S) (U : State) : Prop := cr_WU E S U ∧ cr_NC U
theorem cr_blindN (E : cr_E) (S : cr_S) (av : List Value) : FrameBlind (va_Pc av (fun U => cr_WN E S U)) := by
  intro a U g mk h
  obtain ⟨h1, ⟨h2, h3, h4⟩, h5⟩ := h
  exact ⟨h1, ⟨h2, va_K.moved (u := U) (U := U.calling g mk a) (Vm.Alike.refl U.vm) h3, h4.kept (u := U) (U := U.calling g mk a) (State.WarmedH.refl U) (Nat.le_refl _) (fun _ _ _ => rfl)⟩, cr_NC.moved (u := U) (U := U.calling g mk a) (Vm.Alike.refl U.vm) h5⟩
/-- contracts with a cost -/
def cr_Mc {α : Type} (l : Launch) (E : cr_E) (y : MethodName) (ws : List Cond) (rm : Room) (mc ms : Nat) (av : List Value) (S : cr_S) (vw : α → Option Value × cr_S) (res : Option α) : Prop :=
  ∀ (a : α) (post : Option Value → cr_S → Prop), res = some a → post (vw a).1 (vw a).2 → Met l y ws rm (va_Pc av (fun U => cr_WN E S U)) (cr_Qc E post) mc ms E.2.2.1
theorem cr_met_of_x {l : Launch} {y : MethodName} {ws : List Cond} {rm : Room} {Pc : Array Value → State → Prop} {Qc : Array Value → State → Outcome → State → Prop} {mc ms : Nat} {free : Addr → Prop} (h : vx_Met l y ws rm Pc Qc (fun _ _ _ => False) mc ms free) : Met l y ws rm Pc Qc mc ms free := by
  intro p e ha hc hk s m args below hf happ hP hK
  obtain ⟨k, o, h1, h2, h3, hQ⟩ := h p e ha hc hk s m args below hf happ hP hK
  refine ⟨k, o, h1, h2, h3, ?_⟩
  rcases hQ with hq | ⟨q, -, E9, ce, L, hx, -⟩
  · exact hq
  · exact hx.elim
def cr_Fc {α : Type} (Γ : cr_C) (E : cr_E) (mc ms : Nat) (vw : α → Option Value × cr_S) : α → (State → Prop) → Prop := fun a Q => ∃ post : Option Value → cr_S → Prop, Q = vx_MQ Γ.2.2.2.2.2.2.2.1 (cr_Qc E post) (fun _ _ _ => False) Γ.2.2.2.2.2.2.1 Γ.2.2.2.2.1 mc ms E.2.2.1 ∧ post (vw a).1 (vw a).2
def cr_clc {α β : Type} (o : Option (String ⊕ β)) (kx : String → Option α) (k : β → Option α) : Option α := match o with
  | none => none
  | some (.inl C) => kx C
  | some (.inr b) => k b
section CR5
variable {α : Type} {Γ : cr_C} {E : cr_E} {nL : Nat} {Φ : α → (State → Prop) → Prop} {kc ks mc ms : Nat} {S : cr_S} {pc : Nat} {lv : List (Nat × Value)} {rest : List Value} {res : Option α} {cc : ByteArray} {own : String} {Ts : List Cond} {rm : Room} {rt : Option FieldType}
theorem cr_widen {st : List Value} (k1 n1 : Nat) (h1 : kc ≤ k1) (h2 : ks ≤ n1) (kk : cr_P Γ E nL Φ k1 n1 S pc lv st res) : cr_P Γ E nL Φ kc ks S pc lv st res :=
  fun Q a g1 g2 H locs ls hW hS hls => W.widen h1 h2 (kk Q a g1 g2 H locs ls hW hS hls)
theorem cr_iinc0 (X : cr_X Γ E cc nL own Ts rm rt) {i : Nat} {n : Int} {x : Int32} (v : Int32) (lv' : List (Nat × Value)) (q : Nat) (hk : lv[q]? = some (i, .int x)) (hv : x + Int32.ofInt n = v) (hl : (i, Value.int v) :: lv.filter (fun q => !(q.1 == i) && !(q.1 + 1 == i && q.2.category == 2)) = lv') (hn : i < nL) (hdg : decode cc pc = .ok (.iinc i n, 3)) (kk : cr_P Γ E nL Φ kc ks S (pc + 3) lv' rest res) : cr_P Γ E nL Φ kc ks S pc lv rest res := by
  obtain ⟨p, l, e, R, s, m, args, below, meth, c⟩ := Γ
  obtain ⟨hx, hb, -⟩ := X
  intro Q a h1 h2 H locs ls hW hS hls
  exact lv_iinc hx hb hdg hls hk hv hn hl (fun ls' h' => kk Q a h1 h2 H locs ls' hW hS h')
theorem cr_slen (X : cr_X Γ E cc nL own Ts rm rt) {b N : Nat} {f : Nat → Int32} (hb9 : va_X b N f Γ.2.2.2.2.1 Γ.2.2.2.2.1.heap ∧ b < Γ.2.2.2.2.1.heap.size ∧ ¬ E.2.2.1 b) (hdg : decode cc pc = .ok (.arraylength, 1)) (kk : cr_P Γ E nL Φ kc ks S (pc + 1) lv (.int (nI N) :: rest) res) : cr_P Γ E nL Φ kc ks S pc lv (.ref b :: rest) res := by
  obtain ⟨p, l, e, R, s, m, args, below, meth, c⟩ := Γ
  obtain ⟨hx, hb, -⟩ := X
  intro Q a g1 g2 H locs ls hW hS hls
  exact va_slen hx hb hb9.1 hb9.2.1 hb9.2.2 hS hdg (kk Q a g1 g2 H locs ls hW hS hls)
theorem cr_iretc (X : cr_X Γ E cc nL own Ts rm rt) {vw : α → Option Value × cr_S} {a : α} {v : Int32} (hr : rt = some .int) (ha : vw a = (some (.int v), S)) (hk : kc ≤ mc ∧ ks ≤ ms) (hdg : decode cc pc = .ok (.ireturn, 1)) : cr_P Γ E nL (cr_Fc Γ E mc ms vw) kc ks S pc lv [.int v] (some a) := by
  obtain ⟨p, l, e, R, s, m, args, below, meth, c⟩ := Γ
  obtain ⟨hx, hb, hml, hown, hts, hK, hEK, hSF, hlk, hRm, hrt⟩ := X
  rintro Q a' h1 ⟨post, hQ, hp⟩ H locs ls hW hS hls
  cases h1; subst hQ
  rw [ha] at hp
  exact W.widen hk.1 hk.2 (vx_ret (W.iret hx hb (hrt.trans hr) (fun t ht hWm => ⟨⟨_, _, rfl, hp, by rw [ht]; exact hW⟩, hS.F ht⟩) (fun q hq => hS.2.2 q hq) hdg hlk))
theorem cr_enterc {l : Launch} {y : MethodName} {ws' : List Cond} {av : List Value} {vw : α → Option Value × cr_S} {hh : List (Nat × Nat × Nat × Nat)} (hEK : cr_EK E) (hy : plainName y.cls = true) (hw : Ts = Cond.codeWith y cc nL rt hh :: ws') (hlen : (lg_sl av).length ≤ nL)
    (hB : ∀ Γ : cr_C, Γ.2.1 = l → cr_X Γ E cc nL y.cls Ts rm rt → cr_NC Γ.2.2.2.2.1 → Γ.2.2.2.2.2.2.2.2.2.exceptionTable.toList = tableOf hh → cr_P Γ E nL (cr_Fc Γ E mc ms vw) 0 0 S 0 (lv_args 0 av) [] res) : cr_Mc l E y Ts rm mc ms av S vw res := by
  intro a post h1 h2
  refine cr_met_of_x (vx_ofWH (cc := cc) (maxL := nL) (ret := rt) (hh := hh) hy hw ?_)
  intro p e s m args below meth c s₁ B hml hv
  obtain ⟨rfl, ⟨hWH, hK, hSF⟩, hNC⟩ := hv
  have hl9 := lv_entry av (n := nL) hlen
  have hts := atoms_spec (ws := Ts) B.pre
  have htab := vx_table (x := y) B (hts _ (by rw [hw]; exact List.mem_cons_self))
  rw [lg_entry_eq]
  exact hB (p, l, e, _, s, m, _, below, meth, c) rfl ⟨B.exec, B.bytes, hml, findClass_of_methodNamed B.named, hts, hK, hEK, hSF, B.notSynchronized, rfl, B.returns⟩ hNC htab _ a h1 ⟨post, rfl, h2⟩ s.heap [] _ hWH va_S.rf hl9
/-- a call whose throw is caught here: what stands behind it -/
theorem cr_callCx {β : Type} (X : cr_X Γ E cc nL own Ts rm rt) {y : MethodName} {ws ws' : List Cond} {bytes : ByteArray} {maxL index f j ci : Nat} {ret : Option FieldType} {rm' : Room} {fs : List Value} {C : String} {T : u_T} {N : Nat} {As st : List Value} {vb : β → Option Value × cr_S} {o : Option (String ⊕ β)} {kx : String → Option α} {kf : β → Option α} (mc1 ms1 : Nat)
    (hM : cr_My Γ.2.1 E y ws rm' mc1 ms1 (.ref (E.2.1 f j) :: As) S vb o) (ha : cr_at E S f j (.inr (ci, fs))) (hc : vwCl[ci]? = some (C, T, N)) (n : Nat) (hT : GoodIn Ts (wsV own index C y ws)) (hw : ws = Cond.code y bytes maxL ret :: ws') (hrc : rm'.cells = mc1) (hrs : rm'.slots = ms1)
    (hd : y.cls = C ∧ y.cls ≠ "java/lang/invoke/MethodHandle" ∧ y.cls ≠ "java/lang/invoke/VarHandle" ∧ (parseMethodDescriptor y.desc).map (fun d => d.parameters.length) = some n) (hR : rm'.frames + 1 ≤ rm.frames ∧ 8 + (maxL + 11) + rm'.locals ≤ rm.locals) (hkk : kc + mc1 ≤ rm.cells ∧ ks + ms1 ≤ rm.slots)
    (hn : As.length = n) (hst : st = As.reverse ++ .ref (E.2.1 f j) :: rest) (hrest : (rest.map fun v => v.category).sum ≤ 8) (hdg : decode cc pc = .ok (.invokevirtual index, 3))
    (kkx : ∀ C9, o = some (.inl C9) → ∀ (Q : State → Prop) (a : α), kx C9 = some a → Φ a Q → ∀ (H1 : Heap) (locs1 : List Loc) (ls : Array Slot) (q : Addr) (ce : Cell), cr_WH E S H1 → va_S E.2.2.1 Γ.2.2.2.2.1.heap H1 locs1 → lv_has ls nL lv → H1[q]? = some ce → ce.vm = .none → Γ.2.2.2.2.1.vm.findClass C9 = some ce.cls → vx_W Γ.1 Γ.2.1 Γ.2.2.1 Γ.2.2.2.1 Γ.2.2.2.2.1 Γ.2.2.2.2.2.1 Γ.2.2.2.2.2.2.1 Γ.2.2.2.2.2.2.2.1 Γ.2.2.2.2.2.2.2.2.1 Γ.2.2.2.2.2.2.2.2.2 H1 locs1 (kc + mc1) (ks + ms1) Q (F0 Γ.2.2.2.2.2.1 pc ls rest) q)
    (kk : ∀ b, cr_P Γ E nL Φ (kc + mc1) (ks + ms1) (vb b).2 (pc + 3) lv ((vb b).1.toList ++ rest) (kf b)) : cr_P Γ E nL Φ kc ks S pc lv st (cr_clc o kx kf) := by
  intro Q a h1 h2 H locs ls hW hS hls
  cases o with
  | none => cases h1
  | some b0 =>
    obtain ⟨p, l, e, R, s, m, args, below, meth, c⟩ := Γ
    have hMet := hM b0 (fun v S' => ∃ b, b0 = .inr b ∧ v = (vb b).1 ∧ S' = (vb b).2) (fun C S' => b0 = .inl C ∧ S' = S) rfl (fun b hb => ⟨b, hb, rfl, rfl⟩) (fun C hC => ⟨hC, rfl⟩)
    obtain ⟨hx, hb, hml, hown, hts, hK, hEK, hSF, hlk, hRm, hrt⟩ := X
    have hRm : R = rm := hRm
    subst hRm
    have hcl := hW f j ha.1
    rw [ha.2] at hcl
    have hP1 : va_P E.1 vwCl [(E.2.1 f j, .inr (ci, fs))] H := fun k q hq => by
      cases k with
      | zero => cases hq; exact hcl
      | succ k => cases hq
    refine cr_wentx (S := S) (a := b0) (vx_runV (As := As) (rest := rest) ⟨hx, hb, hml, hown, hts⟩ hMet (cwV n hts hT hw hrc hrs hd hR) ⟨cr_blind E S _, va_recv hK hP1 (q0 := 0) hc rfl, fun U hU hWm => ⟨rfl, cr_WU.of (by rw [hU]; exact hW) hK hSF hWm (locs := locs) (by rw [hU]; exact hS)⟩⟩ rfl hn hls.1 hst (lv_room hrest) hdg hkk) hS hls (fun C9 hC9 H1 locs1 q ce hW1 hS1 hce hcv hcl9 => ?_) (fun b hb9 => ?_)
    · subst hC9
      exact kkx C9 rfl Q a h1 h2 H1 locs1 ls q ce hW1 hS1 hls hce hcv hcl9
    · subst hb9
      exact kk b Q a h1 h2
/-- one handler -/
theorem cr_callC1 {β : Type} (X : cr_X Γ E cc nL own Ts rm rt) {a1 b1 h1 t1 : Nat} (htab : Γ.2.2.2.2.2.2.2.2.2.exceptionTable.toList = tableOf [(a1, b1, h1, t1)]) (C1 : String) (hC1 : Cond.castable C1 C1 ∈ cr_badw) (hl1 : Cond.classLink own t1 C1 ∈ Ts) {y : MethodName} {ws ws' : List Cond} {bytes : ByteArray} {maxL index f j ci : Nat} {ret : Option FieldType} {rm' : Room} {fs : List Value} {C : String} {T : u_T} {N : Nat} {As st : List Value} {vb : β → Option Value × cr_S} {o : Option (String ⊕ β)} {r1 : Option α} {kf : β → Option α} (mc1 ms1 : Nat)
    (hM : cr_My Γ.2.1 E y ws rm' mc1 ms1 (.ref (E.2.1 f j) :: As) S vb o) (ha : cr_at E S f j (.inr (ci, fs))) (hc : vwCl[ci]? = some (C, T, N)) (n : Nat) (hT : GoodIn Ts (wsV own index C y ws)) (hw : ws = Cond.code y bytes maxL ret :: ws') (hrc : rm'.cells = mc1) (hrs : rm'.slots = ms1)
    (hd : y.cls = C ∧ y.cls ≠ "java/lang/invoke/MethodHandle" ∧ y.cls ≠ "java/lang/invoke/VarHandle" ∧ (parseMethodDescriptor y.desc).map (fun d => d.parameters.length) = some n) (hR : rm'.frames + 1 ≤ rm.frames ∧ 8 + (maxL + 11) + rm'.locals ≤ rm.locals) (hkk : kc + mc1 ≤ rm.cells ∧ ks + ms1 ≤ rm.slots)
    (hn : As.length = n) (hst : st = As.reverse ++ .ref (E.2.1 f j) :: rest) (hrest : (rest.map fun v => v.category).sum ≤ 8) (hdg : decode cc pc = .ok (.invokevirtual index, 3))
    (hcov : a1 ≤ pc ∧ pc < b1) (ht1 : t1 ≠ 0)
    (k1 : ∀ q, cr_P Γ E nL Φ (kc + mc1) (ks + ms1) S h1 lv [.ref q] r1)
    (kk : ∀ b, cr_P Γ E nL Φ (kc + mc1) (ks + ms1) (vb b).2 (pc + 3) lv ((vb b).1.toList ++ rest) (kf b)) : cr_P Γ E nL Φ kc ks S pc lv st (cr_clc o (fun C9 => if C9 = C1 then r1 else none) kf) := by
  refine cr_callCx X mc1 ms1 hM ha hc n hT hw hrc hrs hd hR hkk hn hst hrest hdg (fun C9 hC9 Q a g1 g2 H1 locs1 ls q ce hW1 hS1 hls hce hcv hcl9 => ?_) kk
  by_cases e1 : C9 = C1
  · subst e1
    rw [if_pos rfl] at g1
    obtain ⟨p, l, e, R, s, m, args, below, meth, c⟩ := Γ
    obtain ⟨hx, hb, hml, hown, hts, hK, hEK, hSF, hlk, hRm, hrt⟩ := X
    have htab : c.exceptionTable.toList = [] ++ (⟨a1, b1, h1, t1⟩ : ExceptionTableEntry) :: [] := htab
    refine vx_catch hown [] _ [] htab (fun z hz => nomatch hz) (by simp [covers, hcov.1, hcov.2]) ht1 (hts _ hl1) (cr_badw_args _ hC1 (hSF.2.2.2.2.2.2 _ hC1)) hce hcv hcl9 ?_
    exact k1 q Q a g1 g2 H1 locs1 ls hW1 hS1 hls
  · rw [if_neg e1] at g1
    cases g1
/-- two handlers -/
theorem cr_callC2 {β : Type} (X : cr_X Γ E cc nL own Ts rm rt) (NC : cr_NC Γ.2.2.2.2.1) {a1 b1 h1 t1 h2 t2 : Nat} (htab : Γ.2.2.2.2.2.2.2.2.2.exceptionTable.toList = tableOf [(a1, b1, h1, t1), (a1, b1, h2, t2)]) (C1 C2 : String) (hC1 : Cond.castable C1 C1 ∈ cr_badw) (hC2 : Cond.castable C2 C2 ∈ cr_badw) (hnc : (C2, C1) ∈ cr_ncs) (hl1 : Cond.classLink own t1 C1 ∈ Ts) (hl2 : Cond.classLink own t2 C2 ∈ Ts) {y : MethodName} {ws ws' : List Cond} {bytes : ByteArray} {maxL index f j ci : Nat} {ret : Option FieldType} {rm' : Room} {fs : List Value} {C : String} {T : u_T} {N : Nat} {As st : List Value} {vb : β → Option Value × cr_S} {o : Option (String ⊕ β)} {r1 r2 : Option α} {kf : β → Option α} (mc1 ms1 : Nat)
    (hM : cr_My Γ.2.1 E y ws rm' mc1 ms1 (.ref (E.2.1 f j) :: As) S vb o) (ha : cr_at E S f j (.inr (ci, fs))) (hc : vwCl[ci]? = some (C, T, N)) (n : Nat) (hT : GoodIn Ts (wsV own index C y ws)) (hw : ws = Cond.code y bytes maxL ret :: ws') (hrc : rm'.cells = mc1) (hrs : rm'.slots = ms1)
    (hd : y.cls = C ∧ y.cls ≠ "java/lang/invoke/MethodHandle" ∧ y.cls ≠ "java/lang/invoke/VarHandle" ∧ (parseMethodDescriptor y.desc).map (fun d => d.parameters.length) = some n) (hR : rm'.frames + 1 ≤ rm.frames ∧ 8 + (maxL + 11) + rm'.locals ≤ rm.locals) (hkk : kc + mc1 ≤ rm.cells ∧ ks + ms1 ≤ rm.slots)
    (hn : As.length = n) (hst : st = As.reverse ++ .ref (E.2.1 f j) :: rest) (hrest : (rest.map fun v => v.category).sum ≤ 8) (hdg : decode cc pc = .ok (.invokevirtual index, 3))
    (hcov : a1 ≤ pc ∧ pc < b1) (ht1 : t1 ≠ 0) (ht2 : t2 ≠ 0)
    (k1 : ∀ q, cr_P Γ E nL Φ (kc + mc1) (ks + ms1) S h1 lv [.ref q] r1) (k2 : ∀ q, cr_P Γ E nL Φ (kc + mc1) (ks + ms1) S h2 lv [.ref q] r2)
    (kk : ∀ b, cr_P Γ E nL Φ (kc + mc1) (ks + ms1) (vb b).2 (pc + 3) lv ((vb b).1.toList ++ rest) (kf b)) : cr_P Γ E nL Φ kc ks S pc lv st (cr_clc o (fun C9 => if C9 = C1 then r1 else if C9 = C2 then r2 else none) kf) := by
  refine cr_callCx X mc1 ms1 hM ha hc n hT hw hrc hrs hd hR hkk hn hst hrest hdg (fun C9 hC9 Q a g1 g2 H1 locs1 ls q ce hW1 hS1 hls hce hcv hcl9 => ?_) kk
  by_cases e1 : C9 = C1
  · subst e1
    rw [if_pos rfl] at g1
    obtain ⟨p, l, e, R, s, m, args, below, meth, c⟩ := Γ
    obtain ⟨hx, hb, hml, hown, hts, hK, hEK, hSF, hlk, hRm, hrt⟩ := X
    have htab : c.exceptionTable.toList = [] ++ (⟨a1, b1, h1, t1⟩ : ExceptionTableEntry) :: [⟨a1, b1, h2, t2⟩] := htab
    refine vx_catch hown [] _ _ htab (fun z hz => nomatch hz) (by simp [covers, hcov.1, hcov.2]) ht1 (hts _ hl1) (cr_badw_args _ hC1 (hSF.2.2.2.2.2.2 _ hC1)) hce hcv hcl9 ?_
    exact k1 q Q a g1 g2 H1 locs1 ls hW1 hS1 hls
  · rw [if_neg e1] at g1
    by_cases e2 : C9 = C2
    · subst e2
      rw [if_pos rfl] at g1
      obtain ⟨p, l, e, R, s, m, args, below, meth, c⟩ := Γ
      obtain ⟨hx, hb, hml, hown, hts, hK, hEK, hSF, hlk, hRm, hrt⟩ := X
      have htab : c.exceptionTable.toList = [(⟨a1, b1, h1, t1⟩ : ExceptionTableEntry)] ++ (⟨a1, b1, h2, t2⟩ : ExceptionTableEntry) :: [] := htab
      refine vx_catch hown [⟨a1, b1, h1, t1⟩] _ [] htab (fun z hz => ?_) (by simp [covers, hcov.1, hcov.2]) ht2 (hts _ hl2) (cr_badw_args _ hC2 (hSF.2.2.2.2.2.2 _ hC2)) hce hcv hcl9 ?_
      · have hz : z = ⟨a1, b1, h1, t1⟩ := List.mem_singleton.mp hz
        subst hz
        exact Or.inr ⟨ht1, C1, hts _ hl1, NC _ hnc⟩
      · exact k2 q Q a g1 g2 H1 locs1 ls hW1 hS1 hls
    · rw [if_neg e2] at g1
      cases g1
theorem cr_wentc {β : Type} {p : Program} {l : Launch} {e : Env} {R : Room} {s : State} {m : MethodId} {args : Array Value} {below : List Frame} {meth : Method} {c : Code} {H : Heap} {locs : List Loc} {ls : Array Slot} {av : Array Value} {st : List Value} {b : β} {vw : β → Option Value × cr_S} {Q : State → Prop} {mc1 ms1 : Nat}
    (hr : va_Run p l e R s m args below meth c H locs kc ks mc1 ms1 (F0 m pc ls st) rest (cr_Qc E (fun v S' => v = (vw b).1 ∧ S' = (vw b).2) av) E.2.2.1) (hS : va_S E.2.2.1 s.heap H locs) (hls : lv_has ls nL lv)
    (kk : cr_W (p, l, e, R, s, m, args, below, meth, c) E Q (kc + mc1) (ks + ms1) nL (vw b).2 (pc + 3) lv ((vw b).1.toList ++ rest)) : W p l e R s m args below meth c H locs kc ks Q (F0 m pc ls st) := by
  intro T hT X
  obtain ⟨v, st₀, t, T', L, h0, X', hL, e1, e2, ⟨⟨v', S', hv, ⟨hp1, hp2⟩, hWH⟩, hz, hk⟩, hst⟩ := hr T hT X
  cases hv
  subst hp1; subst hp2
  rw [h0] at hz hk
  have hS' : va_S E.2.2.1 s.heap T'.heap (locs ++ L) := by
    refine ⟨Nat.le_trans hS.1 (by rw [e1]; exact hz), fun q h1 h2 => ?_, fun q hq => ?_⟩
    · rw [e1, hk q (Nat.lt_of_lt_of_le h1 hS.1) h2]; exact hS.2.1 q h1 h2
    · rcases List.mem_append.mp hq with h | h
      · exact hS.2.2 q h
      · exact hL q h
  obtain ⟨t2, a1, b1⟩ := kk T'.heap (locs ++ L) ls (by rw [e1]; exact hWH) hS' hls T' rfl X'
  exact ⟨t2, hst t2 a1, b1⟩
/-- a static call of a method with a table of its own and a cost -/
theorem cr_callSc {β : Type} (X : cr_X Γ E cc nL own Ts rm rt) (NC : cr_NC Γ.2.2.2.2.1) {y : MethodName} {ws ws' : List Cond} {bytes : ByteArray} {maxL index : Nat} {ret : Option FieldType} {hh : List (Nat × Nat × Nat × Nat)} {rm' : Room} {As st : List Value} {vw : β → Option Value × cr_S} {o : Option β} {kf : β → Option α} (mc1 ms1 : Nat)
    (hM : cr_Mc Γ.2.1 E y ws rm' mc1 ms1 As S vw o) (n : Nat) (hT : GoodIn Ts (va_wsS own index y ws)) (hw : ws = Cond.codeWith y bytes maxL ret hh :: ws') (hrc : rm'.cells = mc1) (hrs : rm'.slots = ms1)
    (hd : y.cls ≠ "java/lang/invoke/MethodHandle" ∧ y.cls ≠ "java/lang/invoke/VarHandle" ∧ (parseMethodDescriptor y.desc).map (fun d => d.parameters.length) = some n) (hR : rm'.frames + 1 ≤ rm.frames ∧ 8 + (maxL + 11) + rm'.locals ≤ rm.locals) (hkk : kc + mc1 ≤ rm.cells ∧ ks + ms1 ≤ rm.slots)
    (hn : As.length = n) (hst : st = As.reverse ++ rest) (hrest : (rest.map fun v => v.category).sum ≤ 8) (hdg : decode cc pc = .ok (.invokestatic index, 3)) (kk : ∀ b, cr_P Γ E nL Φ (kc + mc1) (ks + ms1) (vw b).2 (pc + 3) lv ((vw b).1.toList ++ rest) (kf b)) : cr_P Γ E nL Φ kc ks S pc lv st (cr_cl o kf) := by
  intro Q a h1 h2 H locs ls hW hS hls
  cases o with
  | none => cases h1
  | some b =>
    obtain ⟨p, l, e, R, s, m, args, below, meth, c⟩ := Γ
    have hMet := hM b (fun v S' => v = (vw b).1 ∧ S' = (vw b).2) rfl ⟨rfl, rfl⟩
    obtain ⟨hx, hb, hml, hown, hts, hK, hEK, hSF, hlk, hRm, hrt⟩ := X
    have hRm : R = rm := hRm
    subst hRm
    exact cr_wentc (b := b) (vw := vw) (vx_runSW (As := As) (rest := rest) ⟨hx, hb, hml, hown, hts⟩ hMet (vx_cwSW n hts hT hw hrc hrs hd hR) ⟨cr_blindN E S _, fun U hU hWm => ⟨rfl, cr_WU.of (by rw [hU]; exact hW) hK hSF hWm (locs := locs) (by rw [hU]; exact hS), cr_NC.moved hWm.alike NC⟩⟩ rfl hn hls.1 hst (lv_room hrest) hdg hkk) hS hls (kk b Q a h1 h2)
theorem cr_icmp_gth (X : cr_X Γ E cc nL own Ts rm rt) {x y : Int32} {off : Int} (tgt : Nat) {r1 r2 : Option α} (hdg : decode cc pc = .ok (.if_icmp .gt off, 3)) (ht : (pc : Int) + off = (tgt : Int)) (k1 : y < x → cr_P Γ E nL Φ kc ks S tgt lv (rest) r1) (k2 : ¬ y < x → cr_P Γ E nL Φ kc ks S (pc + 3) lv (rest) r2) : cr_P Γ E nL Φ kc ks S pc lv (.int y :: .int x :: rest) (if y < x then r1 else r2) := by
  obtain ⟨p, l, e, R, s, m, args, below, meth, c⟩ := Γ
  obtain ⟨hx, hb, -⟩ := X
  intro Q a h1 h2 H locs ls hW hS hls
  by_cases hc : y < x
  · rw [if_pos hc] at h1
    exact lv_icmp_gt hx hb hdg ht (fun _ => k1 hc Q a h1 h2 H locs ls hW hS hls) (fun h => absurd hc h)
  · rw [if_neg hc] at h1
    exact lv_icmp_gt hx hb hdg ht (fun h => absurd h hc) (fun _ => k2 hc Q a h1 h2 H locs ls hW hS hls)
end CR5
theorem cr_law_j {L j : Nat} {x4 : Int32} (hL : L ≤ 2048) (hj0 : j ≤ 512) (hx4 : x4 = nI (4 * j)) (hc : ¬ (nI L - 4 < x4)) : j ≤ 511 := by
  subst hx4
  by_cases e : 4 ≤ L
  · rw [show (4 : Int32) = nI 4 from rfl, pk_sub e, nI_ltI (by omega) (by omega)] at hc
    omega
  · exfalso
    apply hc
    have h1 := pk_sneg (a := L) (b := 4) (by omega) (by omega)
    have h2 : (0 : Int32) ≤ nI (4 * j) := nI_pos' (by omega)
    exact Int32.lt_of_lt_of_le h1 h2
