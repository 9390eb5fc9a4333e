abbrev cr_NM : List String := ["java/lang/RuntimeException", "java/lang/Exception"]
def cr_Qy (Γ : cr_C) (E : cr_E) (mc ms : Nat) (post : Option Value → cr_S → Prop) (px : String → cr_S → Prop) : State → Prop := vx_MQ Γ.2.2.2.2.2.2.2.1 (cr_Qc E post) (cr_XC E px) Γ.2.2.2.2.2.2.1 Γ.2.2.2.2.1 mc ms E.2.2.1
def cr_Fy {α : Type} (Γ : cr_C) (E : cr_E) (mc ms : Nat) (S0 : cr_S) (vw : α → Option Value × cr_S) : String ⊕ α → (State → Prop) → Prop := fun a Q => ∃ post px, Q = cr_Qy Γ E mc ms post px ∧ (∀ b, a = .inr b → post (vw b).1 (vw b).2) ∧ ∀ C, a = .inl C → px C S0
def cr_My {α : Type} (l : Launch) (E : cr_E) (y : MethodName) (ws : List Cond) (rm : Room) (mc ms : Nat) (av : List Value) (S : cr_S) (vw : α → Option Value × cr_S) (res : Option (String ⊕ α)) : Prop :=
  ∀ (a : String ⊕ α) (post : Option Value → cr_S → Prop) (px : String → cr_S → Prop), res = some a → (∀ b, a = .inr b → post (vw b).1 (vw b).2) → (∀ C, a = .inl C → px C S) → vx_Met l y ws rm (va_Pc av (fun U => cr_WU E S U)) (cr_Qc E post) (cr_XC E px) mc ms E.2.2.1
/-- no handlers, no stack traces -/
def cr_Y (Γ : cr_C) : Prop := (∀ x ∈ Γ.2.2.2.2.2.2.2.2.2.exceptionTable.toList, False) ∧ Γ.2.1.stackTraces = false
def cr_clx {α β : Type} (o : Option (String ⊕ β)) (k : β → Option (String ⊕ α)) : Option (String ⊕ α) := match o with
  | none => none
  | some (.inl C) => some (.inl C)
  | some (.inr b) => k b
theorem cr_badw_args {args : Array Value} {s : State} : ∀ w ∈ cr_badw, w.before #[] s = true → w.before args s = true := by
  intro w hw h
  have hg : w.onTables = true := List.all_eq_true.mp (show cr_badw.all (fun w => w.onTables) = true by decide +kernel) w hw
  exact va_tabs hg rfl h
section CR4
variable {α : Type} {Γ : cr_C} {E : cr_E} {nL : Nat} {kc ks mc ms : Nat} {S S0 : cr_S} {pc : Nat} {lv : List (Nat × Value)} {rest : List Value} {cc : ByteArray} {own : String} {Ts : List Cond} {rm : Room} {rt : Option FieldType}
theorem cr_iretx (X : cr_X Γ E cc nL own Ts rm rt) {vw : α → Option Value × cr_S} {a : α} {v : Int32} (hr : rt = some .int) (ha : vw a = (some (.int v), S)) (hk : kc ≤ mc ∧ ks ≤ ms) (hdg : decode cc pc = .ok (.ireturn, 1)) : cr_P Γ E nL (cr_Fy Γ E mc ms S0 vw) kc ks S pc lv [.int v] (some (.inr a)) := by
  obtain ⟨p, l, e, R, s, m, args, below, meth, c⟩ := Γ
  obtain ⟨hx, hb, hml, hown, hts, hK, hEK, hSF, hlk, hRm, hrt⟩ := X
  rintro Q a' h1 ⟨post, px, hQ, hp, -⟩ H locs ls hW hS hls
  cases h1; subst hQ
  have hp := hp a rfl
  rw [ha] at hp
  exact W.widen hk.1 hk.2 (vx_ret (W.iret hx hb (hrt.trans hr) (fun t ht hWm => ⟨⟨_, _, rfl, hp, by rw [ht]; exact hW⟩, hS.F ht⟩) (fun q hq => hS.2.2 q hq) hdg hlk))
theorem cr_vretx (X : cr_X Γ E cc nL own Ts rm rt) {vw : α → Option Value × cr_S} {a : α} (hr : rt = none) (ha : vw a = (none, S)) (hk : kc ≤ mc ∧ ks ≤ ms) (hdg : decode cc pc = .ok (.return_, 1)) : cr_P Γ E nL (cr_Fy Γ E mc ms S0 vw) kc ks S pc lv [] (some (.inr a)) := by
  obtain ⟨p, l, e, R, s, m, args, below, meth, c⟩ := Γ
  obtain ⟨hx, hb, hml, hown, hts, hK, hEK, hSF, hlk, hRm, hrt⟩ := X
  rintro Q a' h1 ⟨post, px, hQ, hp, -⟩ H locs ls hW hS hls
  cases h1; subst hQ
  have hp := hp a rfl
  rw [ha] at hp
  exact W.widen hk.1 hk.2 (vx_ret (W.vret hx hb (hrt.trans hr) (fun t ht hWm => ⟨⟨_, _, rfl, hp, by rw [ht]; exact hW⟩, hS.F ht⟩) (fun q hq => hS.2.2 q hq) hdg hlk))
theorem cr_WH.grown {E : cr_E} {S : cr_S} {H H1 : Heap} (h : cr_WH E S H) (hq : ∀ q : Nat, q < H.size → H1[q]? = H[q]?) : cr_WH E S H1 := fun f j hl => (h f j hl).kept (hq _ (h f j hl).lt)
/-- 'throw new E("text")' -/
theorem cr_throw (X : cr_X Γ E cc nL own Ts rm rt) (Y : cr_Y Γ) {vw : α → Option Value × cr_S} {ik is ic : Nat} {cls text : String} (hown9 : own = "CraneCampaign") (hcls : cls ∈ cr_exc) (hfit : Bundle.fit cls = true) (htx : (is, text) ∈ cr_strs) (hk : Cond.classLink own ik cls ∈ Ts) (hini : Cond.initialized cls ∈ Ts) (hat : ∀ w ∈ (vx_atS own ic cls cr_NM).filter goodWord, w ∈ Ts) (hbad : ∀ w ∈ (vx_atS own ic cls cr_NM).filter (fun w => !goodWord w), w ∈ cr_badw)
    (hgood : ∀ w ∈ Cond.classLink own ik cls :: Cond.initialized cls :: vx_atS own ic cls cr_NM, vx_ot w = true)
    (d0 : decode cc pc = .ok (.new ik, 3)) (d3 : decode cc (pc + 3) = .ok (.dup, 1)) (d4 : decode cc (pc + 4) = .ok (.ldc is, 2)) (d6 : decode cc (pc + 6) = .ok (.invokespecial ic, 3)) (d9 : decode cc (pc + 9) = .ok (.athrow, 1))
    (hR : 5 < rm.frames ∧ (rest.map fun v => v.category).sum + 82 ≤ rm.locals ∧ kc + 1 ≤ rm.cells ∧ ks + 6 ≤ rm.slots) (hk9 : kc + 1 ≤ mc ∧ ks + 6 ≤ ms) : cr_P Γ E nL (cr_Fy Γ E mc ms S vw) kc ks S pc lv rest (some (.inl cls)) := by
  obtain ⟨p, l, e, R, s, m, args, below, meth, c⟩ := Γ
  obtain ⟨hx, hb, hml, hown, hts, hK, hEK, hSF, hlk, hRm, hrt⟩ := X
  have hRm : R = rm := hRm
  subst hRm
  rintro Q a' h1 ⟨post, px, hQ, -, hp⟩ H locs ls hW hS hls
  cases h1; subst hQ
  have hp := hp cls rfl
  obtain ⟨-, -, -, hU, hN, hstr, hca⟩ := hSF
  obtain ⟨sa, hsa⟩ := hstr _ htx
  have hat' : ∀ w ∈ vx_atS own ic cls cr_NM, w.before args s = true := vx_hat (fun w hw => hts w (hat w hw)) hbad (fun w hw => cr_badw_args w hw (hca w hw))
  refine vx_throwS (names := cr_NM) hx hb Y.2 hown hfit (by decide +kernel) (hts _ hk) (hts _ hini) (by rw [hown9]; exact hsa) hat' hgood hU hN hS (hls.1.trans hml.symm) d0 d3 d4 d6 d9 (fun x hx => (Y.1 x hx).elim) hR.1 hR.2.1 hR.2.2.1 hR.2.2.2 hlk (fun t hvm hz hq => ?_) (fun z hz => hS.2.2 z hz) hk9.1 hk9.2
  exact ⟨⟨S, hp, hW.grown hq⟩, Nat.le_trans hS.1 hz, fun q h1 h2 => by rw [hq q (Nat.lt_of_lt_of_le h1 hS.1)]; exact hS.2.1 q h1 h2⟩
theorem cr_throwW (X : cr_X Γ E cc nL own Ts rm rt) (Y : cr_Y Γ) {vw : α → Option Value × cr_S} {ik is ic : Nat} {cls text : String} (hown9 : own = "CraneCampaign") (hcls : cls ∈ cr_exc) (hfit : Bundle.fit cls = true) (htx : (is, text) ∈ cr_strs) (hk : Cond.classLink own ik cls ∈ Ts) (hini : Cond.initialized cls ∈ Ts) (hat : ∀ w ∈ (vx_atS own ic cls cr_NM).filter goodWord, w ∈ Ts) (hbad : ∀ w ∈ (vx_atS own ic cls cr_NM).filter (fun w => !goodWord w), w ∈ cr_badw)
    (hgood : ∀ w ∈ Cond.classLink own ik cls :: Cond.initialized cls :: vx_atS own ic cls cr_NM, vx_ot w = true)
    (d0 : decode cc pc = .ok (.new ik, 3)) (d3 : decode cc (pc + 3) = .ok (.dup, 1)) (d4 : decode cc (pc + 4) = .ok (.ldc_w is, 3)) (d7 : decode cc (pc + 7) = .ok (.invokespecial ic, 3)) (d10 : decode cc (pc + 10) = .ok (.athrow, 1))
    (hR : 5 < rm.frames ∧ (rest.map fun v => v.category).sum + 82 ≤ rm.locals ∧ kc + 1 ≤ rm.cells ∧ ks + 6 ≤ rm.slots) (hk9 : kc + 1 ≤ mc ∧ ks + 6 ≤ ms) : cr_P Γ E nL (cr_Fy Γ E mc ms S vw) kc ks S pc lv rest (some (.inl cls)) := by
  obtain ⟨p, l, e, R, s, m, args, below, meth, c⟩ := Γ
  obtain ⟨hx, hb, hml, hown, hts, hK, hEK, hSF, hlk, hRm, hrt⟩ := X
  have hRm : R = rm := hRm
  subst hRm
  rintro Q a' h1 ⟨post, px, hQ, -, hp⟩ H locs ls hW hS hls
  cases h1; subst hQ
  have hp := hp cls rfl
  obtain ⟨-, -, -, hU, hN, hstr, hca⟩ := hSF
  obtain ⟨sa, hsa⟩ := hstr _ htx
  have hat' : ∀ w ∈ vx_atS own ic cls cr_NM, w.before args s = true := vx_hat (fun w hw => hts w (hat w hw)) hbad (fun w hw => cr_badw_args w hw (hca w hw))
  refine vx_throwSW (names := cr_NM) hx hb Y.2 hown hfit (by decide +kernel) (hts _ hk) (hts _ hini) (by rw [hown9]; exact hsa) hat' hgood hU hN hS (hls.1.trans hml.symm) d0 d3 d4 d7 d10 (fun x hx => (Y.1 x hx).elim) hR.1 hR.2.1 hR.2.2.1 hR.2.2.2 hlk (fun t hvm hz hq => ?_) (fun z hz => hS.2.2 z hz) hk9.1 hk9.2
  exact ⟨⟨S, hp, hW.grown hq⟩, Nat.le_trans hS.1 hz, fun q h1 h2 => by rw [hq q (Nat.lt_of_lt_of_le h1 hS.1)]; exact hS.2.1 q h1 h2⟩
/-- a call that may throw has run: it has returned, or (nothing is caught here) this method throws too -/
theorem cr_wentx {β : Type} {p : Program} {l : Launch} {e : Env} {R : Room} {s : State} {m : MethodId} {args : Array Value} {below : List Frame} {meth : Method} {c : Code} {H : Heap} {locs : List Loc} {ls : Array Slot} {av : Array Value} {st : List Value} {a : String ⊕ β} {vb : β → Option Value × cr_S} {Q : State → Prop} {mc1 ms1 : Nat}
    (hr : vx_Run p l e R s m args below meth c H locs kc ks mc1 ms1 (F0 m pc ls st) rest (cr_Qc E (fun v S' => ∃ b, a = .inr b ∧ v = (vb b).1 ∧ S' = (vb b).2) av) (cr_XC E (fun C S' => a = .inl C ∧ S' = S)) E.2.2.1) (hS : va_S E.2.2.1 s.heap H locs) (hls : lv_has ls nL lv)
    (kx : ∀ C, a = .inl C → ∀ (H1 : Heap) (locs1 : List Loc) (q : Addr) (ce : Cell), cr_WH E S H1 → va_S E.2.2.1 s.heap H1 locs1 → H1[q]? = some ce → ce.vm = .none → s.vm.findClass C = some ce.cls → vx_W p l e R s m args below meth c H1 locs1 (kc + mc1) (ks + ms1) Q (F0 m pc ls rest) q)
    (kk : ∀ b, a = .inr b → cr_W (p, l, e, R, s, m, args, below, meth, c) E Q (kc + mc1) (ks + ms1) nL (vb b).2 (pc + 3) lv ((vb b).1.toList ++ rest)) : W p l e R s m args below meth c H locs kc ks Q (F0 m pc ls st) := by
  intro T hT X
  have keep : ∀ (st₀ t T' : State) (L : List Loc), st₀.heap = H → T'.heap = t.heap → (∀ q ∈ L, E.2.2.1 q.base) → va_F E.2.2.1 st₀ t → va_S E.2.2.1 s.heap T'.heap (locs ++ L) := by
    intro st₀ t T' L h0 e1 hL hF
    exact (vx_keep h0 e1 hS (fun q _ h => h) (fun q h => h) hL hF).2.2
  rcases hr T hT X with ⟨v, st₀, t, T', L, h0, X', hL, e1, e2, ⟨⟨v', S', hv, ⟨b, hab, hp1, hp2⟩, hWH⟩, hF⟩, hst⟩ | ⟨q, st₀, t, T', L, C, ce, h0, X', hL, e1, e2, ⟨⟨S', ⟨hab, hp1⟩, hWH⟩, hF⟩, hce, hcv, hcl, hst⟩
  · cases hv
    subst hp1; subst hp2
    obtain ⟨t2, a1, b1⟩ := kk b hab T'.heap (locs ++ L) ls (by rw [e1]; exact hWH) (keep st₀ t T' L h0 e1 hL hF) hls T' rfl X'
    exact ⟨t2, hst t2 a1, b1⟩
  · subst hp1
    obtain ⟨t2, a1, b1⟩ := kx C hab T'.heap (locs ++ L) q ce (by rw [e1]; exact hWH) (keep st₀ t T' L h0 e1 hL hF) (by rw [e1]; exact hce) hcv hcl T' rfl X'
    exact ⟨t2, hst.trans a1, b1⟩
theorem cr_callVx {β : Type} (X : cr_X Γ E cc nL own Ts rm rt) (Y : cr_Y Γ) {y : MethodName} {ws ws' : List Cond} {bytes : ByteArray} {maxL index f j ci : Nat} {ret : Option FieldType} {rm' : Room} {fs : List Value} {C : String} {T : u_T} {N : Nat} {As st : List Value} {vb : β → Option Value × cr_S} {vw : α → Option Value × cr_S} {o : Option (String ⊕ β)} {kf : β → Option (String ⊕ α)} (mc1 ms1 : Nat)
    (hM : cr_My Γ.2.1 E y ws rm' mc1 ms1 (.ref (E.2.1 f j) :: As) S vb o) (ha : cr_at E S f j (.inr (ci, fs))) (hc : vwCl[ci]? = some (C, T, N)) (n : Nat) (hT : GoodIn Ts (wsV own index C y ws)) (hw : ws = Cond.code y bytes maxL ret :: ws') (hrc : rm'.cells = mc1) (hrs : rm'.slots = ms1)
    (hd : y.cls = C ∧ y.cls ≠ "java/lang/invoke/MethodHandle" ∧ y.cls ≠ "java/lang/invoke/VarHandle" ∧ (parseMethodDescriptor y.desc).map (fun d => d.parameters.length) = some n) (hR : rm'.frames + 1 ≤ rm.frames ∧ 8 + (maxL + 11) + rm'.locals ≤ rm.locals) (hkk : kc + mc1 ≤ rm.cells ∧ ks + ms1 ≤ rm.slots) (hk9 : kc + mc1 ≤ mc ∧ ks + ms1 ≤ ms)
    (hn : As.length = n) (hst : st = As.reverse ++ .ref (E.2.1 f j) :: rest) (hrest : (rest.map fun v => v.category).sum ≤ 8) (hdg : decode cc pc = .ok (.invokevirtual index, 3)) (kk : ∀ b, cr_P Γ E nL (cr_Fy Γ E mc ms S vw) (kc + mc1) (ks + ms1) (vb b).2 (pc + 3) lv ((vb b).1.toList ++ rest) (kf b)) : cr_P Γ E nL (cr_Fy Γ E mc ms S vw) kc ks S pc lv st (cr_clx o kf) := by
  intro Q a h1 h2 H locs ls hW hS hls
  cases o with
  | none => cases h1
  | some b0 =>
    obtain ⟨p, l, e, R, s, m, args, below, meth, c⟩ := Γ
    have hMet := hM b0 (fun v S' => ∃ b, b0 = .inr b ∧ v = (vb b).1 ∧ S' = (vb b).2) (fun C S' => b0 = .inl C ∧ S' = S) rfl (fun b hb => ⟨b, hb, rfl, rfl⟩) (fun C hC => ⟨hC, rfl⟩)
    obtain ⟨hx, hb, hml, hown, hts, hK, hEK, hSF, hlk, hRm, hrt⟩ := X
    have hRm : R = rm := hRm
    subst hRm
    have hcl := hW f j ha.1
    rw [ha.2] at hcl
    have hP1 : va_P E.1 vwCl [(E.2.1 f j, .inr (ci, fs))] H := fun k q hq => by
      cases k with
      | zero => cases hq; exact hcl
      | succ k => cases hq
    refine cr_wentx (S := S) (a := b0) (vx_runV (As := As) (rest := rest) ⟨hx, hb, hml, hown, hts⟩ hMet (cwV n hts hT hw hrc hrs hd hR) ⟨cr_blind E S _, va_recv hK hP1 (q0 := 0) hc rfl, fun U hU hWm => ⟨rfl, cr_WU.of (by rw [hU]; exact hW) hK hSF hWm (locs := locs) (by rw [hU]; exact hS)⟩⟩ rfl hn hls.1 hst (lv_room hrest) hdg hkk) hS hls (fun C9 hC9 H1 locs1 q ce hW1 hS1 hce hcv hcl9 => ?_) (fun b hb9 => ?_)
    · subst hC9
      have h1 : a = .inl C9 := (Option.some.inj h1).symm
      subst h1
      obtain ⟨post, px, hQ, -, hp⟩ := h2
      subst hQ
      exact vx_out (fun x hx => (Y.1 x hx).elim) hlk hce hcv hcl9 (fun t ht hvm => ⟨⟨S, hp C9 rfl, by rw [ht]; exact hW1⟩, hS1.F ht⟩) (fun z hz => hS1.2.2 z hz) hk9.1 hk9.2
    · subst hb9
      exact kk b Q a h1 h2
theorem cr_callSx {β : Type} (X : cr_X Γ E cc nL own Ts rm rt) (Y : cr_Y Γ) {y : MethodName} {ws ws' : List Cond} {bytes : ByteArray} {maxL index : Nat} {ret : Option FieldType} {rm' : Room} {As st : List Value} {vb : β → Option Value × cr_S} {vw : α → Option Value × cr_S} {o : Option (String ⊕ β)} {kf : β → Option (String ⊕ α)} (mc1 ms1 : Nat)
    (hM : cr_My Γ.2.1 E y ws rm' mc1 ms1 As S vb o) (n : Nat) (hT : GoodIn Ts (va_wsS own index y ws)) (hw : ws = Cond.code y bytes maxL ret :: ws') (hrc : rm'.cells = mc1) (hrs : rm'.slots = ms1)
    (hd : y.cls ≠ "java/lang/invoke/MethodHandle" ∧ y.cls ≠ "java/lang/invoke/VarHandle" ∧ (parseMethodDescriptor y.desc).map (fun d => d.parameters.length) = some n) (hR : rm'.frames + 1 ≤ rm.frames ∧ 8 + (maxL + 11) + rm'.locals ≤ rm.locals) (hkk : kc + mc1 ≤ rm.cells ∧ ks + ms1 ≤ rm.slots) (hk9 : kc + mc1 ≤ mc ∧ ks + ms1 ≤ ms)
    (hn : As.length = n) (hst : st = As.reverse ++ rest) (hrest : (rest.map fun v => v.category).sum ≤ 8) (hdg : decode cc pc = .ok (.invokestatic index, 3)) (kk : ∀ b, cr_P Γ E nL (cr_Fy Γ E mc ms S vw) (kc + mc1) (ks + ms1) (vb b).2 (pc + 3) lv ((vb b).1.toList ++ rest) (kf b)) : cr_P Γ E nL (cr_Fy Γ E mc ms S vw) kc ks S pc lv st (cr_clx o kf) := by
  intro Q a h1 h2 H locs ls hW hS hls
  cases o with
  | none => cases h1
  | some b0 =>
    obtain ⟨p, l, e, R, s, m, args, below, meth, c⟩ := Γ
    have hMet := hM b0 (fun v S' => ∃ b, b0 = .inr b ∧ v = (vb b).1 ∧ S' = (vb b).2) (fun C S' => b0 = .inl C ∧ S' = S) rfl (fun b hb => ⟨b, hb, rfl, rfl⟩) (fun C hC => ⟨hC, rfl⟩)
    obtain ⟨hx, hb, hml, hown, hts, hK, hEK, hSF, hlk, hRm, hrt⟩ := X
    have hRm : R = rm := hRm
    subst hRm
    have ok : ∀ w ∈ va_wsS own index y ws, w.before args s = true := fun w h => hts w (hT w h).1
    refine cr_wentx (S := S) (a := b0) (vx_runS (As := As) (rest := rest) ⟨hx, hb, hml, hown, hts⟩ hMet ⟨callB_of n hts (fun w h => hT w (by unfold va_wsS; exact List.mem_append_right _ h)) hw hrc hrs (ok _ (by simp [va_wsS])) (ok _ (by simp [va_wsS])) hd hR, ok _ (by simp [va_wsS])⟩ ⟨cr_blind E S _, fun U hU hWm => ⟨rfl, cr_WU.of (by rw [hU]; exact hW) hK hSF hWm (locs := locs) (by rw [hU]; exact hS)⟩⟩ rfl hn hls.1 hst (lv_room hrest) hdg hkk) hS hls (fun C9 hC9 H1 locs1 q ce hW1 hS1 hce hcv hcl9 => ?_) (fun b hb9 => ?_)
    · subst hC9
      have h1 : a = .inl C9 := (Option.some.inj h1).symm
      subst h1
      obtain ⟨post, px, hQ, -, hp⟩ := h2
      subst hQ
      exact vx_out (fun x hx => (Y.1 x hx).elim) hlk hce hcv hcl9 (fun t ht hvm => ⟨⟨S, hp C9 rfl, by rw [ht]; exact hW1⟩, hS1.F ht⟩) (fun z hz => hS1.2.2 z hz) hk9.1 hk9.2
    · subst hb9
      exact kk b Q a h1 h2
theorem cr_enterx {l : Launch} {y : MethodName} {ws' : List Cond} {av : List Value} {vw : α → Option Value × cr_S} {res : Option (String ⊕ α)} (hl : l.stackTraces = false) (hEK : cr_EK E) (hy : plainName y.cls = true) (hw : Ts = Cond.code y cc nL rt :: ws') (hlen : (lg_sl av).length ≤ nL)
    (hB : ∀ Γ : cr_C, Γ.2.1 = l → cr_X Γ E cc nL y.cls Ts rm rt → cr_Y Γ → cr_P Γ E nL (cr_Fy Γ E mc ms S vw) 0 0 S 0 (lv_args 0 av) [] res) : cr_My l E y Ts rm mc ms av S vw res := by
  intro a post px h1 h2 h3
  refine vx_ofW (cc := cc) (maxL := nL) (ret := rt) hy hw ?_
  intro p e s m args below meth c s₁ B hml htab hv
  obtain ⟨rfl, hWH, hK, hSF⟩ := hv
  have hl9 := lv_entry av (n := nL) hlen
  rw [lg_entry_eq]
  exact hB (p, l, e, _, s, m, _, below, meth, c) rfl ⟨B.exec, B.bytes, hml, findClass_of_methodNamed B.named, atoms_spec (ws := Ts) B.pre, hK, hEK, hSF, B.notSynchronized, rfl, B.returns⟩ ⟨htab, hl⟩ _ a h1 ⟨post, px, rfl, h2, h3⟩ s.heap [] _ hWH va_S.rf hl9
/-- ldc_w of a float -/
theorem cr_ldcwf {Φ : α → (State → Prop) → Prop} {res : Option α} (X : cr_X Γ E cc nL own Ts rm rt) {index : Nat} {v : UInt32} (hc : Cond.constantFloat own index v ∈ Ts) (hdg : decode cc pc = .ok (.ldc_w index, 3)) (kk : cr_P Γ E nL Φ kc ks S (pc + 3) lv (.float v :: rest) res) : cr_P Γ E nL Φ kc ks S pc lv rest res := by
  obtain ⟨p, l, e, R, s, m, args, below, meth, c⟩ := Γ
  obtain ⟨hx, hb, hml, hown, hts, -⟩ := X
  intro Q a h1 h2 H locs ls hW hS hls T hT X9
  have hx : p.tables.exec = Jvm.exec := hx
  have hb : c.code = cc := hb
  obtain ⟨k, cf, hk, hcf, hcp⟩ := Cond.constantFloat_spec hown (hts _ hc)
  obtain ⟨k', hk', he⟩ := X9.warmed.alike.2.2 _ _ hk
  have hd9 : decode c.code pc = .ok (.ldc_w index, 3) := by rw [hb]; exact hdg
  obtain ⟨t, a1, b1⟩ := kk Q a h1 h2 H locs ls hW hS hls T hT X9
  refine ⟨t, ?_, b1⟩
  show Steps p.tables e below (T.setTop (F0 m pc ls rest)) t
  jvm_step X9.here [hx, hd9, ldc_w.wp_float (s := T) (f := F0 m pc ls rest) X9.here.top hk' (by rw [he]; exact hcf) hcp]
  exact a1
/-- the static rows of numbers -/
theorem cr_gets (X : cr_X Γ E cc nL own Ts rm rt) {Φ : α → (State → Prop) → Prop} {res : Option α} {n : String} {N : Nat} {f : Nat → Int32} (hown9 : own = "CraneCampaign") (hsa : cr_SA n "[I" N f E Γ.2.2.2.2.1) {index : Nat} (hlink : Cond.fieldLink own index "CraneCampaign" n "[I" ∈ Ts) (hdg : decode cc pc = .ok (.getstatic index, 3)) (kk : ∀ b, va_T .int b N (fun j => .int (f j)) E.2.2.1 Γ.2.2.2.2.1 Γ.2.2.2.2.1.heap → cr_P Γ E nL Φ kc ks S (pc + 3) lv (.ref b :: rest) res) : cr_P Γ E nL Φ kc ks S pc lv rest res := by
  obtain ⟨p, l, e, R, s, m, args, below, meth, c⟩ := Γ
  obtain ⟨hx, hb, hml, hown, hts, hK, hEK, hSF, hlk, hRm, hrt⟩ := X
  obtain ⟨b, h1, h2⟩ := hsa
  intro Q a g1 g2 H locs ls hW hS hls
  exact va_gets hx hb h1 hS hown (hts _ hlink) (fun _ h9 => h9) hdg (kk b h2 Q a g1 g2 H locs ls hW hS hls)
theorem cr_gets1 (X : cr_X Γ E cc nL own Ts rm rt) {Φ : α → (State → Prop) → Prop} {res : Option α} (hown9 : own = "CraneCampaign") {index : Nat} (hlink : Cond.fieldLink own index "CraneCampaign" "SETTING_LOWEST" "[I" ∈ Ts) (hdg : decode cc pc = .ok (.getstatic index, 3)) (kk : ∀ b, va_T .int b 7 (fun j => .int (cr_c1 j)) E.2.2.1 Γ.2.2.2.2.1 Γ.2.2.2.2.1.heap → cr_P Γ E nL Φ kc ks S (pc + 3) lv (.ref b :: rest) res) : cr_P Γ E nL Φ kc ks S pc lv rest res := cr_gets X hown9 X.2.2.2.2.2.2.2.1.2.1 hlink hdg kk
theorem cr_gets2 (X : cr_X Γ E cc nL own Ts rm rt) {Φ : α → (State → Prop) → Prop} {res : Option α} (hown9 : own = "CraneCampaign") {index : Nat} (hlink : Cond.fieldLink own index "CraneCampaign" "SETTING_HIGHEST" "[I" ∈ Ts) (hdg : decode cc pc = .ok (.getstatic index, 3)) (kk : ∀ b, va_T .int b 7 (fun j => .int (cr_c2 j)) E.2.2.1 Γ.2.2.2.2.1 Γ.2.2.2.2.1.heap → cr_P Γ E nL Φ kc ks S (pc + 3) lv (.ref b :: rest) res) : cr_P Γ E nL Φ kc ks S pc lv rest res := cr_gets X hown9 X.2.2.2.2.2.2.2.1.2.2.1 hlink hdg kk
theorem cr_satd (X : cr_X Γ E cc nL own Ts rm rt) {Φ : α → (State → Prop) → Prop} {res : Option α} {b N : Nat} {f : Nat → Int32} (hb9 : va_T .int b N (fun j => .int (f j)) E.2.2.1 Γ.2.2.2.2.1 Γ.2.2.2.2.1.heap) {i : Int32} (hdg : decode cc pc = .ok (.iaload, 1)) (kk : cr_P Γ E nL Φ kc ks S (pc + 1) lv (.int (f i.toNatClampNeg) :: rest) res) : cr_P Γ E nL Φ kc ks S pc lv (.int i :: .ref b :: rest) (cr_gd (cr_in i N) res) := by
  refine cr_gdi (fun hg => ?_)
  have hg : vp_in i N := (show ¬ (i < 0 ∨ N ≤ i.toNatClampNeg) from of_decide_eq_true hg)
  obtain ⟨p, l, e, R, s, m, args, below, meth, c⟩ := Γ
  obtain ⟨hx, hb, -⟩ := X
  intro Q a g1 g2 H locs ls hW hS hls
  exact va_ti hx hb hb9 hS hg rfl hdg (kk Q a g1 g2 H locs ls hW hS hls)
theorem cr_sald (X : cr_X Γ E cc nL own Ts rm rt) {Φ : α → (State → Prop) → Prop} {res : Option α} {b N : Nat} {f : Nat → Int32} (hb9 : va_X b N f Γ.2.2.2.2.1 Γ.2.2.2.2.1.heap ∧ b < Γ.2.2.2.2.1.heap.size ∧ ¬ E.2.2.1 b) {i : Int32} (hdg : decode cc pc = .ok (.iaload, 1)) (kk : cr_P Γ E nL Φ kc ks S (pc + 1) lv (.int (f i.toNatClampNeg) :: rest) res) : cr_P Γ E nL Φ kc ks S pc lv (.int i :: .ref b :: rest) (cr_gd (cr_in i N) res) := by
  refine cr_gdi (fun hg => ?_)
  have hg : vp_in i N := (show ¬ (i < 0 ∨ N ≤ i.toNatClampNeg) from of_decide_eq_true hg)
  obtain ⟨p, l, e, R, s, m, args, below, meth, c⟩ := Γ
  obtain ⟨hx, hb, -⟩ := X
  intro Q a g1 g2 H locs ls hW hS hls
  exact va_sld hx hb hb9.1 hb9.2.1 hb9.2.2 hS hg hdg (kk Q a g1 g2 H locs ls hW hS hls)
end CR4
theorem bad_X8_45 : ∀ w ∈ (vx_atS RX8 45 "java/lang/IllegalArgumentException" cr_NM).filter (fun w => !goodWord w), w ∈ cr_badw := by decide +kernel
theorem good_X8_41_45 : ∀ w ∈ Cond.classLink RX8 41 "java/lang/IllegalArgumentException" :: Cond.initialized "java/lang/IllegalArgumentException" :: vx_atS RX8 45 "java/lang/IllegalArgumentException" cr_NM, vx_ot w = true := by decide +kernel
theorem bad_X8_59 : ∀ w ∈ (vx_atS RX8 59 "java/lang/IllegalStateException" cr_NM).filter (fun w => !goodWord w), w ∈ cr_badw := by decide +kernel
theorem good_X8_55_59 : ∀ w ∈ Cond.classLink RX8 55 "java/lang/IllegalStateException" :: Cond.initialized "java/lang/IllegalStateException" :: vx_atS RX8 59 "java/lang/IllegalStateException" cr_NM, vx_ot w = true := by decide +kernel
theorem bad_X8_138 : ∀ w ∈ (vx_atS RX8 138 "java/lang/IndexOutOfBoundsException" cr_NM).filter (fun w => !goodWord w), w ∈ cr_badw := by decide +kernel
theorem good_X8_134_138 : ∀ w ∈ Cond.classLink RX8 134 "java/lang/IndexOutOfBoundsException" :: Cond.initialized "java/lang/IndexOutOfBoundsException" :: vx_atS RX8 138 "java/lang/IndexOutOfBoundsException" cr_NM, vx_ot w = true := by decide +kernel
