theorem k_arr_law0 : Cond.arrayClass .int ∈ wsL_law0 := List.mem_append_left _ (List.mem_append_left _ (List.mem_append_left _ (List.mem_append_left _ (List.mem_append_left _ (List.mem_append_left _ (List.mem_append_left _ (List.mem_append_left _ (List.mem_append_left _ (List.mem_append_left _ (List.mem_append_left _ (List.mem_of_getElem? (i := 3) (by rfl))))))))))))
set_option maxHeartbeats 4000000 in
theorem c_L_ahead (l : Launch) (E : cr_E) (hEK : cr_EK E) (hnf : ¬ cr_fl E) (hup : ∀ q, E.2.1 8 0 ≤ q → E.2.2.1 q) (S : cr_S) (p1 : Int32) : cr_M4 l E yL_ahead wsL_ahead rm_L_ahead [.ref (E.2.1 8 0), .int p1, .ref (E.2.1 9 0), .ref (E.2.1 9 1), .ref (E.2.1 9 2), .ref (E.2.1 11 0), .ref (E.2.1 11 1), .ref (E.2.1 11 2), .ref (E.2.1 9 3)] S cr_vBS (s_L_ahead p1 (cr_us S 10 (fun _ _ => 0))) := by
  intro a post h1 h2
  refine Met.ofW (cc := cL_ahead) (maxL := 21) (ret := (some .boolean)) (by decide) rfl ?_
  intro p e s m args below meth c s₁ B hml hv
  obtain ⟨rfl, hWH, hK, hSF⟩ := hv
  have hl := lv_entry [.ref (E.2.1 8 0), .int p1, .ref (E.2.1 9 0), .ref (E.2.1 9 1), .ref (E.2.1 9 2), .ref (E.2.1 11 0), .ref (E.2.1 11 1), .ref (E.2.1 11 2), .ref (E.2.1 9 3)] (n := 21) (Nat.le_of_ble_eq_true rfl)
  rw [lg_entry_eq]
  have hts := atoms_spec (ws := wsL_ahead) B.pre
  have harr := hts _ (List.mem_cons_of_mem _ k_arr_law0)
  refine ah_walk B.exec B.bytes harr (ah_cls hK) ⟨Nat.le_refl _, Nat.le_refl _⟩ rfl hl (fun H4 ls4 z4 hk4 hC hl4 => ?_)
  have hW' := ex_WH hnf hWH hk4 hC
  have hEK' := ex_EK hEK hnf hup hWH
  have hSend : va_S E.2.2.1 s.heap H4 [] := ⟨z4, fun q h1 _ => hk4 q h1, fun _ h => by cases h⟩
  exact ah_rest hnf ⟨B.exec, B.bytes, hml, findClass_of_methodNamed B.named, hts, hK, hEK', hSF, B.notSynchronized, rfl, B.returns⟩ (cr_us S 10 (fun _ _ => 0)) p1 a h1 post h2 hW' hSend hl4
/-! a call that makes cells -/
theorem cr_went4 {β : Type} {E : cr_E} {nL kc ks mc ms pc : Nat} {lv : List (Nat × Value)} {rest : List Value} {p : Program} {l : Launch} {e : Env} {R : Room} {s : State} {m : MethodId} {args : Array Value} {below : List Frame} {meth : Method} {c : Code} {H : Heap} {locs : List Loc} {ls : Array Slot} {av : Array Value} {st : List Value} {b : β} {vw : β → Option Value × cr_S} {Q : State → Prop}
    (hr : va_Run p l e R s m args below meth c H locs kc ks mc ms (F0 m pc ls st) rest (cr_Qc E (fun v S' => v = (vw b).1 ∧ S' = (vw b).2) av) E.2.2.1) (hS : va_S E.2.2.1 s.heap H locs) (hls : lv_has ls nL lv)
    (kk : cr_W (p, l, e, R, s, m, args, below, meth, c) E Q (kc + mc) (ks + ms) nL (vw b).2 (pc + 3) lv ((vw b).1.toList ++ rest)) : W p l e R s m args below meth c H locs kc ks Q (F0 m pc ls st) := by
  intro T hT X
  obtain ⟨v, st₀, t, T', L, h0, X', hL, e1, e2, ⟨⟨v', S', hv, ⟨hp1, hp2⟩, hWH⟩, hz, hk⟩, hst⟩ := hr T hT X
  cases hv
  subst hp1; subst hp2
  rw [h0] at hz hk
  have hS' : va_S E.2.2.1 s.heap T'.heap (locs ++ L) := by
    refine ⟨Nat.le_trans hS.1 (by rw [e1]; exact hz), fun q h1 h2 => ?_, fun q hq => ?_⟩
    · rw [e1, hk q (Nat.lt_of_lt_of_le h1 hS.1) h2]; exact hS.2.1 q h1 h2
    · rcases List.mem_append.mp hq with h | h
      · exact hS.2.2 q h
      · exact hL q h
  obtain ⟨t2, a1, b1⟩ := kk T'.heap (locs ++ L) ls (by rw [e1]; exact hWH) hS' hls T' rfl X'
  exact ⟨t2, hst t2 a1, b1⟩
theorem cr_callS4 {α β : Type} {Γ : cr_C} {E : cr_E} {nL : Nat} {Φ : α → (State → Prop) → Prop} {kc ks : Nat} {S : cr_S} {pc : Nat} {lv : List (Nat × Value)} {rest : List Value} {cc : ByteArray} {own : String} {Ts : List Cond} {rm : Room} {rt : Option FieldType} (X : cr_X Γ E cc nL own Ts rm rt) {y : MethodName} {ws ws' : List Cond} {bytes : ByteArray} {maxL index : Nat} {ret : Option FieldType} {rm' : Room} {As st : List Value} {vw : β → Option Value × cr_S} {o : Option β} {kf : β → Option α}
    (hM : cr_M4 Γ.2.1 E y ws rm' As S vw o) (n : Nat) (hT : GoodIn Ts (va_wsS own index y ws)) (hw : ws = Cond.code y bytes maxL ret :: ws') (hrc : rm'.cells = 4) (hrs : rm'.slots = 104)
    (hd : y.cls ≠ "java/lang/invoke/MethodHandle" ∧ y.cls ≠ "java/lang/invoke/VarHandle" ∧ (parseMethodDescriptor y.desc).map (fun d => d.parameters.length) = some n) (hR : rm'.frames + 1 ≤ rm.frames ∧ 8 + (maxL + 11) + rm'.locals ≤ rm.locals) (hkk : kc + 4 ≤ rm.cells ∧ ks + 104 ≤ rm.slots)
    (hn : As.length = n) (hst : st = As.reverse ++ rest) (hrest : (rest.map fun v => v.category).sum ≤ 8) (hdg : decode cc pc = .ok (.invokestatic index, 3)) (kk : ∀ b, cr_P Γ E nL Φ (kc + 4) (ks + 104) (vw b).2 (pc + 3) lv ((vw b).1.toList ++ rest) (kf b)) : cr_P Γ E nL Φ kc ks S pc lv st (cr_cl o kf) := by
  intro Q a h1 h2 H locs ls hW hS hls
  cases o with
  | none => cases h1
  | some b =>
    obtain ⟨p, l, e, R, s, m, args, below, meth, c⟩ := Γ
    have hMet := hM b (fun v S' => v = (vw b).1 ∧ S' = (vw b).2) rfl ⟨rfl, rfl⟩
    obtain ⟨hx, hb, hml, hown, hts, hK, hEK, hSF, hlk, hRm, hrt⟩ := X
    have hRm : R = rm := hRm
    subst hRm
    have ok : ∀ w ∈ va_wsS own index y ws, w.before args s = true := fun w h => hts w (hT w h).1
    exact cr_went4 (va_runS (As := As) (rest := rest) ⟨hx, hb, hml, hown, hts⟩ hMet ⟨callB_of n hts (fun w h => hT w (by unfold va_wsS; exact List.mem_append_right _ h)) hw hrc hrs (ok _ (by simp [va_wsS])) (ok _ (by simp [va_wsS])) hd hR, ok _ (by simp [va_wsS])⟩ ⟨cr_blind E S _, fun U hU hWm => ⟨rfl, cr_WU.of (by rw [hU]; exact hW) hK hSF hWm (locs := locs) (by rw [hU]; exact hS)⟩⟩ rfl hn hls.1 hst (lv_room hrest) hdg hkk) hS hls (kk b Q a h1 h2)
