/-- the script of the law, at its place -/
def cr_SR (E : cr_E) (b L : Nat) (xs : Nat → Int32) (U : State) : Prop := va_X b L xs U U.heap ∧ b < U.heap.size ∧ ¬ E.2.2.1 b
theorem cr_SR.kept {E : cr_E} {b L : Nat} {xs : Nat → Int32} {u U : State} (h : cr_SR E b L xs u) (hvm : u.vm.Alike U.vm) (hz : u.heap.size ≤ U.heap.size) (hq : ∀ a : Nat, a < u.heap.size → ¬ E.2.2.1 a → U.heap[a]? = u.heap[a]?) : cr_SR E b L xs U :=
  ⟨va_X.moved hvm (h.1.kept (hq b h.2.1 h.2.2)), Nat.lt_of_lt_of_le h.2.1 hz, h.2.2⟩
theorem cr_blindb (E : cr_E) (S : cr_S) (b L : Nat) (xs : Nat → Int32) (av : List Value) : FrameBlind (va_Pc av (fun U => cr_WU E S U ∧ cr_SR E b L xs U)) := by
  intro a U g mk h
  obtain ⟨h1, ⟨h2, h3, h4⟩, h5⟩ := h
  exact ⟨h1, ⟨h2, va_K.moved (u := U) (U := U.calling g mk a) (Vm.Alike.refl U.vm) h3, h4.kept (u := U) (U := U.calling g mk a) (State.WarmedH.refl U) (Nat.le_refl _) (fun _ _ _ => rfl)⟩, h5.kept (u := U) (U := U.calling g mk a) (Vm.Alike.refl U.vm) (Nat.le_refl _) (fun _ _ _ => rfl)⟩
def cr_Mb {α : Type} (l : Launch) (E : cr_E) (y : MethodName) (ws : List Cond) (rm : Room) (b L : Nat) (xs : Nat → Int32) (av : List Value) (S : cr_S) (vw : α → Option Value × cr_S) (res : Option α) : Prop :=
  ∀ (a : α) (post : Option Value → cr_S → Prop), res = some a → post (vw a).1 (vw a).2 → Met l y ws rm (va_Pc av (fun U => cr_WU E S U ∧ cr_SR E b L xs U)) (cr_Qc E post) 0 0 E.2.2.1
section CR7
variable {α : Type} {Γ : cr_C} {E : cr_E} {nL : Nat} {Φ : α → (State → Prop) → Prop} {kc ks : Nat} {S : cr_S} {pc : Nat} {lv : List (Nat × Value)} {rest : List Value} {res : Option α} {cc : ByteArray} {own : String} {Ts : List Cond} {rm : Room} {rt : Option FieldType}
theorem cr_enterb {l : Launch} {y : MethodName} {ws' : List Cond} {b L : Nat} {xs : Nat → Int32} {av : List Value} {vw : α → Option Value × cr_S} (hEK : cr_EK E) (hy : plainName y.cls = true) (hw : Ts = Cond.code y cc nL rt :: ws') (hlen : (lg_sl av).length ≤ nL)
    (hB : ∀ Γ : cr_C, Γ.2.1 = l → cr_X Γ E cc nL y.cls Ts rm rt → cr_SR E b L xs Γ.2.2.2.2.1 → cr_P Γ E nL (cr_F Γ E vw) 0 0 S 0 (lv_args 0 av) [] res) : cr_Mb l E y Ts rm b L xs av S vw res := by
  intro a post h1 h2
  refine Met.ofW (cc := cc) (maxL := nL) (ret := rt) hy hw ?_
  intro p e s m args below meth c s₁ B hml hv
  obtain ⟨rfl, ⟨hWH, hK, hSF⟩, hSR⟩ := hv
  have hl := lv_entry av (n := nL) hlen
  rw [lg_entry_eq]
  exact hB (p, l, e, _, s, m, _, below, meth, c) rfl ⟨B.exec, B.bytes, hml, findClass_of_methodNamed B.named, atoms_spec (ws := Ts) B.pre, hK, hEK, hSF, B.notSynchronized, rfl, B.returns⟩ hSR _ a h1 ⟨post, rfl, h2⟩ s.heap [] _ hWH va_S.rf hl
theorem cr_callSb {β : Type} (X : cr_X Γ E cc nL own Ts rm rt) {y : MethodName} {ws ws' : List Cond} {bytes : ByteArray} {maxL index b9 L9 : Nat} {xs9 : Nat → Int32} {ret : Option FieldType} {rm' : Room} {As st : List Value} {vw : β → Option Value × cr_S} {o : Option β} {kf : β → Option α}
    (SC : cr_SR E b9 L9 xs9 Γ.2.2.2.2.1) (hM : cr_Mb Γ.2.1 E y ws rm' b9 L9 xs9 As S vw o) (n : Nat) (hT : GoodIn Ts (va_wsS own index y ws)) (hw : ws = Cond.code y bytes maxL ret :: ws') (hrc : rm'.cells = 0) (hrs : rm'.slots = 0)
    (hd : y.cls ≠ "java/lang/invoke/MethodHandle" ∧ y.cls ≠ "java/lang/invoke/VarHandle" ∧ (parseMethodDescriptor y.desc).map (fun d => d.parameters.length) = some n) (hR : rm'.frames + 1 ≤ rm.frames ∧ 8 + (maxL + 11) + rm'.locals ≤ rm.locals) (hkk : kc ≤ rm.cells ∧ ks ≤ rm.slots)
    (hn : As.length = n) (hst : st = As.reverse ++ rest) (hrest : (rest.map fun v => v.category).sum ≤ 8) (hdg : decode cc pc = .ok (.invokestatic index, 3)) (kk : ∀ b, cr_P Γ E nL Φ kc ks (vw b).2 (pc + 3) lv ((vw b).1.toList ++ rest) (kf b)) : cr_P Γ E nL Φ kc ks S pc lv st (cr_cl o kf) := by
  intro Q a h1 h2 H locs ls hW hS hls
  cases o with
  | none => cases h1
  | some b =>
    obtain ⟨p, l, e, R, s, m, args, below, meth, c⟩ := Γ
    have hMet := hM b (fun v S' => v = (vw b).1 ∧ S' = (vw b).2) rfl ⟨rfl, rfl⟩
    obtain ⟨hx, hb, hml, hown, hts, hK, hEK, hSF, hlk, hRm, hrt⟩ := X
    have hRm : R = rm := hRm
    subst hRm
    have ok : ∀ w ∈ va_wsS own index y ws, w.before args s = true := fun w h => hts w (hT w h).1
    exact cr_went (va_runS (As := As) (rest := rest) ⟨hx, hb, hml, hown, hts⟩ hMet ⟨callB_of n hts (fun w h => hT w (by unfold va_wsS; exact List.mem_append_right _ h)) hw hrc hrs (ok _ (by simp [va_wsS])) (ok _ (by simp [va_wsS])) hd hR, ok _ (by simp [va_wsS])⟩ ⟨cr_blindb E S _ _ _ _, fun U hU hWm => ⟨rfl, cr_WU.of (by rw [hU]; exact hW) hK hSF hWm (locs := locs) (by rw [hU]; exact hS), SC.kept hWm.alike (by rw [hU]; exact hS.1) (fun q h1 h2 => by rw [hU]; exact hS.2.1 q h1 h2)⟩⟩ rfl hn hls.1 hst (lv_room hrest) hdg hkk) hS hls (kk b Q a h1 h2)
end CR7
