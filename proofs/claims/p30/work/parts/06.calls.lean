section CR2
variable {α : Type} {Γ : cr_C} {E : cr_E} {nL : Nat} {Φ : α → (State → Prop) → Prop} {kc ks : Nat} {S : cr_S} {pc : Nat} {lv : List (Nat × Value)} {rest : List Value} {res : Option α} {cc : ByteArray} {own : String} {Ts : List Cond} {rm : Room} {rt : Option FieldType}
theorem cr_rows (S0 : cr_S) (f : Nat) (G : cr_G) (j : Nat) (h : Nat → Int32) (f' j' : Nat) (hn : ¬ (f' = f ∧ j' = j)) : (cr_us S0 f (cr_pa G j h)).1 f' j' = (cr_us S0 f G).1 f' j' := by
  by_cases hf : f' = f
  · subst hf
    have hj : j' ≠ j := fun e => hn ⟨rfl, e⟩
    rw [cr_us_eq, cr_us_eq]
    simp [cr_pa, hj]
  · rw [cr_us_ne _ _ hf, cr_us_ne _ _ hf]
theorem cr_pa_row (G : cr_G) (j : Nat) (h : Nat → Int32) : cr_pa G j h j = h := by simp [cr_pa]
/-- a point of one group, out of the whole -/
def cr_sp (S : cr_S) (f j i : Nat) (v : Int32) : cr_S := cr_us S f (cr_pt (S.1 f) j i v)
theorem cr_iastG (X : cr_X Γ E cc nL own Ts rm rt) {S0 : cr_S} {f j n : Nat} {G : cr_G} {cf : (Nat → Int64) → (Nat → Int32) → va_E} (ha : cr_ac E f j cf) (he : ∀ q h, cf q h = .inl (E.2.2.2 0, n, .inl h)) {i x : Int32} {kf : cr_G → Option α} (hdg : decode cc pc = .ok (.iastore, 1)) (kk : ∀ G', cr_P Γ E nL Φ kc ks (cr_us S0 f G') (pc + 1) lv rest (kf G')) : cr_P Γ E nL Φ kc ks (cr_us S0 f G) pc lv (.int x :: .int i :: .ref (E.2.1 f j) :: rest) (cr_gd (cr_in i n) (cr_bd (cr_pt G j i.toNatClampNeg x) kf)) :=
  cr_iast0 X (cr_us S0 f (cr_pt G j i.toNatClampNeg x)) (h := G j) (ha.at (cr_row S0 f G j) (he _ _)) (by rw [ha.2, he, cr_row]; unfold cr_pt; rw [cr_pa_row]) (fun f' j' hn _ => cr_wc_congr (cr_rows S0 f G j _ f' j' hn) rfl) hdg (kk _)
theorem cr_iastS (X : cr_X Γ E cc nL own Ts rm rt) {f j n : Nat} {cf : (Nat → Int64) → (Nat → Int32) → va_E} (ha : cr_ac E f j cf) (he : ∀ q h, cf q h = .inl (E.2.2.2 0, n, .inl h)) {i x : Int32} {kf : cr_S → Option α} (hdg : decode cc pc = .ok (.iastore, 1)) (kk : ∀ S', cr_P Γ E nL Φ kc ks S' (pc + 1) lv rest (kf S')) : cr_P Γ E nL Φ kc ks S pc lv (.int x :: .int i :: .ref (E.2.1 f j) :: rest) (cr_gd (cr_in i n) (cr_bd (cr_sp S f j i.toNatClampNeg x) kf)) := by
  have h := cr_iastG (kf := fun G' => kf (cr_us S f G')) X (S0 := S) (G := S.1 f) ha he (i := i) (x := x) hdg (fun G' => kk _)
  rw [cr_us_self] at h
  exact h
theorem cr_putG (X : cr_X Γ E cc nL own Ts rm rt) {S0 : cr_S} {f j ci : Nat} {G : cr_G} {cf : (Nat → Int64) → (Nat → Int32) → va_E} (ha : cr_ac E f j cf) {fs : List Value} {v : Int32} (k : Nat) (he : cf S0.2 (G j) = .inr (ci, fs)) (he' : cf S0.2 (upd (G j) k v) = .inr (ci, fs.set k (.int v))) {C : String} {T : u_T} {N : Nat} (hc : vwCl[ci]? = some (C, T, N)) (hin : ∀ w ∈ u_ws C T N, w ∈ Ts) (ty0 : Nat → FieldType) (hty : ∀ k, k < N → parseFieldDescriptor (T k).2.2.1 = some (ty0 k)) (hnm : ∀ a, a < N → ∀ b, b < N → a ≠ b → (T a).2.1 ≠ (T b).2.1) (hk : k < N) {index : Nat} (hlink : Cond.fieldLink own index (T k).1 (T k).2.1 (T k).2.2.1 ∈ Ts) (hfin : (T k).2.2.2 = false) (hn : narrow (ty0 k) (.int v) = .int v) (hfit : fits (ty0 k) (.int v) = true) (hl : k < fs.length) {kf : cr_G → Option α} (hdg : decode cc pc = .ok (.putfield index, 3)) (kk : ∀ G', cr_P Γ E nL Φ kc ks (cr_us S0 f G') (pc + 3) lv rest (kf G')) : cr_P Γ E nL Φ kc ks (cr_us S0 f G) pc lv (.int v :: .ref (E.2.1 f j) :: rest) (cr_bd (cr_pt G j k v) kf) :=
  cr_put0 X (cr_us S0 f (cr_pt G j k v)) (ha.at (cr_row S0 f G j) he) hc hin ty0 hty hnm k hk hlink hfin hn hfit hl (by rw [ha.2, cr_row]; unfold cr_pt; rw [cr_pa_row]; exact he') (fun f' j' hn _ => cr_wc_congr (cr_rows S0 f G j _ f' j' hn) rfl) hdg (kk _)
theorem cr_putS (X : cr_X Γ E cc nL own Ts rm rt) {f j ci : Nat} {cf : (Nat → Int64) → (Nat → Int32) → va_E} (ha : cr_ac E f j cf) {fs : List Value} {v : Int32} (k : Nat) (he : cf S.2 (S.1 f j) = .inr (ci, fs)) (he' : cf S.2 (upd (S.1 f j) k v) = .inr (ci, fs.set k (.int v))) {C : String} {T : u_T} {N : Nat} (hc : vwCl[ci]? = some (C, T, N)) (hin : ∀ w ∈ u_ws C T N, w ∈ Ts) (ty0 : Nat → FieldType) (hty : ∀ k, k < N → parseFieldDescriptor (T k).2.2.1 = some (ty0 k)) (hnm : ∀ a, a < N → ∀ b, b < N → a ≠ b → (T a).2.1 ≠ (T b).2.1) (hk : k < N) {index : Nat} (hlink : Cond.fieldLink own index (T k).1 (T k).2.1 (T k).2.2.1 ∈ Ts) (hfin : (T k).2.2.2 = false) (hn : narrow (ty0 k) (.int v) = .int v) (hfit : fits (ty0 k) (.int v) = true) (hl : k < fs.length) {kf : cr_S → Option α} (hdg : decode cc pc = .ok (.putfield index, 3)) (kk : ∀ S', cr_P Γ E nL Φ kc ks S' (pc + 3) lv rest (kf S')) : cr_P Γ E nL Φ kc ks S pc lv (.int v :: .ref (E.2.1 f j) :: rest) (cr_bd (cr_sp S f j k v) kf) := by
  have h := cr_putG (kf := fun G' => kf (cr_us S f G')) X (S0 := S) (G := S.1 f) ha k he he' hc hin ty0 hty hnm hk hlink hfin hn hfit hl hdg (fun G' => kk _)
  rw [cr_us_self] at h
  exact h
theorem cr_iastGk (X : cr_X Γ E cc nL own Ts rm rt) {S0 : cr_S} {f j n : Nat} {G : cr_G} {cf : (Nat → Int64) → (Nat → Int32) → va_E} (k : Nat) (ha : cr_ac E f j cf) (he : ∀ q h, cf q h = .inl (E.2.2.2 0, n, .inl h)) {i x : Int32} (hk : i.toNatClampNeg = k) (hi : cr_in i n = true) {kf : cr_G → Option α} (hdg : decode cc pc = .ok (.iastore, 1)) (kk : ∀ G', cr_P Γ E nL Φ kc ks (cr_us S0 f G') (pc + 1) lv rest (kf G')) : cr_P Γ E nL Φ kc ks (cr_us S0 f G) pc lv (.int x :: .int i :: .ref (E.2.1 f j) :: rest) (cr_bd (cr_pt G j k x) kf) := by
  subst hk
  have h9 := cr_iastG (G := G) X ha he (i := i) (x := x) (kf := kf) hdg kk
  rw [hi] at h9
  exact h9
theorem cr_iastSk (X : cr_X Γ E cc nL own Ts rm rt) {f j n : Nat} {cf : (Nat → Int64) → (Nat → Int32) → va_E} (k : Nat) (ha : cr_ac E f j cf) (he : ∀ q h, cf q h = .inl (E.2.2.2 0, n, .inl h)) {i x : Int32} (hk : i.toNatClampNeg = k) (hi : cr_in i n = true) {kf : cr_S → Option α} (hdg : decode cc pc = .ok (.iastore, 1)) (kk : ∀ S', cr_P Γ E nL Φ kc ks S' (pc + 1) lv rest (kf S')) : cr_P Γ E nL Φ kc ks S pc lv (.int x :: .int i :: .ref (E.2.1 f j) :: rest) (cr_bd (cr_sp S f j k x) kf) := by
  subst hk
  have h9 := cr_iastS (S := S) X ha he (i := i) (x := x) (kf := kf) hdg kk
  rw [hi] at h9
  exact h9
theorem cr_acopyG (X : cr_X Γ E cc nL own Ts rm rt) {S0 : cr_S} {f j f2 j2 n0 n1 : Nat} {G : cr_G} {cf : (Nat → Int64) → (Nat → Int32) → va_E} (h0 : Nat → Int32) (ha0 : cr_at E (cr_us S0 f G) f2 j2 (.inl (E.2.2.2 0, n0, .inl h0))) (ha : cr_ac E f j cf) (he : ∀ q h, cf q h = .inl (E.2.2.2 0, n1, .inl h)) {sp dp n : Int32} (a b c : Nat) (hs : ¬ sp < 0 ∧ ¬ dp < 0 ∧ ¬ n < 0 ∧ sp.toNatClampNeg + n.toNatClampNeg ≤ n0 ∧ dp.toNatClampNeg + n.toNatClampNeg ≤ n1) (hs2 : sp.toNatClampNeg = a ∧ dp.toNatClampNeg = b ∧ n.toNatClampNeg = c) {index : Nat} (hlink : Cond.methodLink own index arraycopyName ∈ Ts) (hnat : Cond.native arraycopyName ∈ Ts) (hstat : Cond.static arraycopyName ∈ Ts) (hini : Cond.initialized "java/lang/System" ∈ Ts) (hfr : 1 ≤ rm.frames) (hlo : (rest.map fun v => v.category).sum + (nativeFrameWords "java/lang/System" "arraycopy" 5 + 11) ≤ rm.locals) {kf : cr_G → Option α} (hdg : decode cc pc = .ok (.invokestatic index, 3)) (kk : ∀ G', cr_P Γ E nL Φ kc ks (cr_us S0 f G') (pc + 3) lv rest (kf G')) : cr_P Γ E nL Φ kc ks (cr_us S0 f G) pc lv (.int n :: .int dp :: .ref (E.2.1 f j) :: .int sp :: .ref (E.2.1 f2 j2) :: rest) (cr_bd (cr_pa G j (va_cpy h0 (G j) a b c)) kf) := by
  obtain ⟨rfl, rfl, rfl⟩ := hs2
  exact cr_acopy0 X (cr_us S0 f (cr_pa G j (va_cpy h0 (G j) sp.toNatClampNeg dp.toNatClampNeg n.toNatClampNeg))) (h1 := G j) ha0 (ha.at (cr_row S0 f G j) (he _ _)) hs (by rw [ha.2, he, cr_row, cr_pa_row]) (fun f' j' hn _ => cr_wc_congr (cr_rows S0 f G j _ f' j' hn) rfl) hlink hnat hstat hini hfr hlo hdg (kk _)
/-- a call that has run -/
theorem cr_went {β : Type} {p : Program} {l : Launch} {e : Env} {R : Room} {s : State} {m : MethodId} {args : Array Value} {below : List Frame} {meth : Method} {c : Code} {H : Heap} {locs : List Loc} {ls : Array Slot} {av : Array Value} {st : List Value} {b : β} {vw : β → Option Value × cr_S} {Q : State → Prop}
    (hr : va_Run p l e R s m args below meth c H locs kc ks 0 0 (F0 m pc ls st) rest (cr_Qc E (fun v S' => v = (vw b).1 ∧ S' = (vw b).2) av) E.2.2.1) (hS : va_S E.2.2.1 s.heap H locs) (hls : lv_has ls nL lv)
    (kk : cr_W (p, l, e, R, s, m, args, below, meth, c) E Q kc ks nL (vw b).2 (pc + 3) lv ((vw b).1.toList ++ rest)) : W p l e R s m args below meth c H locs kc ks Q (F0 m pc ls st) := by
  intro T hT X
  obtain ⟨v, st₀, t, T', L, h0, X', hL, e1, e2, ⟨⟨v', S', hv, ⟨hp1, hp2⟩, hWH⟩, hz, hk⟩, hst⟩ := hr T hT X
  cases hv
  subst hp1; subst hp2
  rw [h0] at hz hk
  have hS' : va_S E.2.2.1 s.heap T'.heap (locs ++ L) := by
    refine ⟨Nat.le_trans hS.1 (by rw [e1]; exact hz), fun q h1 h2 => ?_, fun q hq => ?_⟩
    · rw [e1, hk q (Nat.lt_of_lt_of_le h1 hS.1) h2]; exact hS.2.1 q h1 h2
    · rcases List.mem_append.mp hq with h | h
      · exact hS.2.2 q h
      · exact hL q h
  obtain ⟨t2, a1, b1⟩ := kk T'.heap (locs ++ L) ls (by rw [e1]; exact hWH) hS' hls T' rfl X'
  exact ⟨t2, hst t2 a1, b1⟩
theorem cr_callV {β : Type} (X : cr_X Γ E cc nL own Ts rm rt) {y : MethodName} {ws ws' : List Cond} {bytes : ByteArray} {maxL index f j ci : Nat} {ret : Option FieldType} {rm' : Room} {fs : List Value} {C : String} {T : u_T} {N : Nat} {As st : List Value} {vw : β → Option Value × cr_S} {o : Option β} {kf : β → Option α}
    (hM : cr_M Γ.2.1 E y ws rm' (.ref (E.2.1 f j) :: As) S vw o) (ha : cr_at E S f j (.inr (ci, fs))) (hc : vwCl[ci]? = some (C, T, N)) (n : Nat) (hT : GoodIn Ts (wsV own index C y ws)) (hw : ws = Cond.code y bytes maxL ret :: ws') (hrc : rm'.cells = 0) (hrs : rm'.slots = 0)
    (hd : y.cls = C ∧ y.cls ≠ "java/lang/invoke/MethodHandle" ∧ y.cls ≠ "java/lang/invoke/VarHandle" ∧ (parseMethodDescriptor y.desc).map (fun d => d.parameters.length) = some n) (hR : rm'.frames + 1 ≤ rm.frames ∧ 8 + (maxL + 11) + rm'.locals ≤ rm.locals) (hkk : kc ≤ rm.cells ∧ ks ≤ rm.slots)
    (hn : As.length = n) (hst : st = As.reverse ++ .ref (E.2.1 f j) :: rest) (hrest : (rest.map fun v => v.category).sum ≤ 8) (hdg : decode cc pc = .ok (.invokevirtual index, 3)) (kk : ∀ b, cr_P Γ E nL Φ kc ks (vw b).2 (pc + 3) lv ((vw b).1.toList ++ rest) (kf b)) : cr_P Γ E nL Φ kc ks S pc lv st (cr_cl o kf) := by
  intro Q a h1 h2 H locs ls hW hS hls
  cases o with
  | none => cases h1
  | some b =>
    obtain ⟨p, l, e, R, s, m, args, below, meth, c⟩ := Γ
    have hMet := hM b (fun v S' => v = (vw b).1 ∧ S' = (vw b).2) rfl ⟨rfl, rfl⟩
    obtain ⟨hx, hb, hml, hown, hts, hK, hEK, hSF, hlk, hRm, hrt⟩ := X
    have hRm : R = rm := hRm
    subst hRm
    have hcl := hW f j ha.1
    rw [ha.2] at hcl
    have hP1 : va_P E.1 vwCl [(E.2.1 f j, .inr (ci, fs))] H := fun k q hq => by
      cases k with
      | zero => cases hq; exact hcl
      | succ k => cases hq
    exact cr_went (va_runV (As := As) (rest := rest) ⟨hx, hb, hml, hown, hts⟩ hMet (cwV n hts hT hw hrc hrs hd hR) ⟨cr_blind E S _, va_recv hK hP1 (q0 := 0) hc rfl, fun U hU hWm => ⟨rfl, cr_WU.of (by rw [hU]; exact hW) hK hSF hWm (locs := locs) (by rw [hU]; exact hS)⟩⟩ rfl hn hls.1 hst (lv_room hrest) hdg hkk) hS hls (kk b Q a h1 h2)
theorem cr_callS {β : Type} (X : cr_X Γ E cc nL own Ts rm rt) {y : MethodName} {ws ws' : List Cond} {bytes : ByteArray} {maxL index : Nat} {ret : Option FieldType} {rm' : Room} {As st : List Value} {vw : β → Option Value × cr_S} {o : Option β} {kf : β → Option α}
    (hM : cr_M Γ.2.1 E y ws rm' As S vw o) (n : Nat) (hT : GoodIn Ts (va_wsS own index y ws)) (hw : ws = Cond.code y bytes maxL ret :: ws') (hrc : rm'.cells = 0) (hrs : rm'.slots = 0)
    (hd : y.cls ≠ "java/lang/invoke/MethodHandle" ∧ y.cls ≠ "java/lang/invoke/VarHandle" ∧ (parseMethodDescriptor y.desc).map (fun d => d.parameters.length) = some n) (hR : rm'.frames + 1 ≤ rm.frames ∧ 8 + (maxL + 11) + rm'.locals ≤ rm.locals) (hkk : kc ≤ rm.cells ∧ ks ≤ rm.slots)
    (hn : As.length = n) (hst : st = As.reverse ++ rest) (hrest : (rest.map fun v => v.category).sum ≤ 8) (hdg : decode cc pc = .ok (.invokestatic index, 3)) (kk : ∀ b, cr_P Γ E nL Φ kc ks (vw b).2 (pc + 3) lv ((vw b).1.toList ++ rest) (kf b)) : cr_P Γ E nL Φ kc ks S pc lv st (cr_cl o kf) := by
  intro Q a h1 h2 H locs ls hW hS hls
  cases o with
  | none => cases h1
  | some b =>
    obtain ⟨p, l, e, R, s, m, args, below, meth, c⟩ := Γ
    have hMet := hM b (fun v S' => v = (vw b).1 ∧ S' = (vw b).2) rfl ⟨rfl, rfl⟩
    obtain ⟨hx, hb, hml, hown, hts, hK, hEK, hSF, hlk, hRm, hrt⟩ := X
    have hRm : R = rm := hRm
    subst hRm
    have ok : ∀ w ∈ va_wsS own index y ws, w.before args s = true := fun w h => hts w (hT w h).1
    exact cr_went (va_runS (As := As) (rest := rest) ⟨hx, hb, hml, hown, hts⟩ hMet ⟨callB_of n hts (fun w h => hT w (by unfold va_wsS; exact List.mem_append_right _ h)) hw hrc hrs (ok _ (by simp [va_wsS])) (ok _ (by simp [va_wsS])) hd hR, ok _ (by simp [va_wsS])⟩ ⟨cr_blind E S _, fun U hU hWm => ⟨rfl, cr_WU.of (by rw [hU]; exact hW) hK hSF hWm (locs := locs) (by rw [hU]; exact hS)⟩⟩ rfl hn hls.1 hst (lv_room hrest) hdg hkk) hS hls (kk b Q a h1 h2)
/-- the ends -/
theorem cr_iret (X : cr_X Γ E cc nL own Ts rm rt) {vw : α → Option Value × cr_S} {a : α} {v : Int32} (hr : rt = some .int) (ha : vw a = (some (.int v), S)) (hdg : decode cc pc = .ok (.ireturn, 1)) : cr_P Γ E nL (cr_F Γ E vw) 0 0 S pc lv [.int v] (some a) := by
  obtain ⟨p, l, e, R, s, m, args, below, meth, c⟩ := Γ
  obtain ⟨hx, hb, hml, hown, hts, hK, hEK, hSF, hlk, hRm, hrt⟩ := X
  rintro Q a' h1 ⟨post, hQ, hp⟩ H locs ls hW hS hls
  cases h1; subst hQ; rw [ha] at hp
  exact W.iret hx hb (hrt.trans hr) (fun t ht hWm => ⟨⟨_, _, rfl, hp, by rw [ht]; exact hW⟩, hS.F ht⟩) (fun q hq => hS.2.2 q hq) hdg hlk
theorem cr_zret (X : cr_X Γ E cc nL own Ts rm rt) {vw : α → Option Value × cr_S} {a : α} (b : Bool) {v : Int32} (hv : v = cr_b b) (hr : rt = some .boolean) (ha : vw a = (some (.int v), S)) (hdg : decode cc pc = .ok (.ireturn, 1)) : cr_P Γ E nL (cr_F Γ E vw) 0 0 S pc lv [.int v] (some a) := by
  obtain ⟨p, l, e, R, s, m, args, below, meth, c⟩ := Γ
  obtain ⟨hx, hb, hml, hown, hts, hK, hEK, hSF, hlk, hRm, hrt⟩ := X
  rintro Q a' h1 ⟨post, hQ, hp⟩ H locs ls hW hS hls
  cases h1; subst hQ; rw [ha] at hp
  exact W.zret hx hb (hrt.trans hr) (by subst hv; cases b <;> rfl) (fun t ht hWm => ⟨⟨_, _, rfl, hp, by rw [ht]; exact hW⟩, hS.F ht⟩) (fun q hq => hS.2.2 q hq) hdg hlk
theorem cr_vret (X : cr_X Γ E cc nL own Ts rm rt) {vw : α → Option Value × cr_S} {a : α} (hr : rt = none) (ha : vw a = (none, S)) (hdg : decode cc pc = .ok (.return_, 1)) : cr_P Γ E nL (cr_F Γ E vw) 0 0 S pc lv [] (some a) := by
  obtain ⟨p, l, e, R, s, m, args, below, meth, c⟩ := Γ
  obtain ⟨hx, hb, hml, hown, hts, hK, hEK, hSF, hlk, hRm, hrt⟩ := X
  rintro Q a' h1 ⟨post, hQ, hp⟩ H locs ls hW hS hls
  cases h1; subst hQ; rw [ha] at hp
  exact W.vret hx hb (hrt.trans hr) (fun t ht hWm => ⟨⟨_, _, rfl, hp, by rw [ht]; exact hW⟩, hS.F ht⟩) (fun q hq => hS.2.2 q hq) hdg hlk
theorem cr_lret (X : cr_X Γ E cc nL own Ts rm rt) {vw : α → Option Value × cr_S} {a : α} {v : Int64} (hr : rt = some .long) (ha : vw a = (some (.long v), S)) (hdg : decode cc pc = .ok (.lreturn, 1)) : cr_P Γ E nL (cr_F Γ E vw) 0 0 S pc lv [.long v] (some a) := by
  obtain ⟨p, l, e, R, s, m, args, below, meth, c⟩ := Γ
  obtain ⟨hx, hb, hml, hown, hts, hK, hEK, hSF, hlk, hRm, hrt⟩ := X
  rintro Q a' h1 ⟨post, hQ, hp⟩ H locs ls hW hS hls
  cases h1; subst hQ; rw [ha] at hp
  exact W.lret hx hb (hrt.trans hr) (fun t ht hWm => ⟨⟨_, _, rfl, hp, by rw [ht]; exact hW⟩, hS.F ht⟩) (fun q hq => hS.2.2 q hq) hdg hlk
theorem cr_fret (X : cr_X Γ E cc nL own Ts rm rt) {vw : α → Option Value × cr_S} {a : α} {v : UInt32} (hr : rt = some .float) (ha : vw a = (some (.float v), S)) (hdg : decode cc pc = .ok (.freturn, 1)) : cr_P Γ E nL (cr_F Γ E vw) 0 0 S pc lv [.float v] (some a) := by
  obtain ⟨p, l, e, R, s, m, args, below, meth, c⟩ := Γ
  obtain ⟨hx, hb, hml, hown, hts, hK, hEK, hSF, hlk, hRm, hrt⟩ := X
  rintro Q a' h1 ⟨post, hQ, hp⟩ H locs ls hW hS hls
  cases h1; subst hQ; rw [ha] at hp
  exact W.fret hx hb (hrt.trans hr) (fun t ht hWm => ⟨⟨_, _, rfl, hp, by rw [ht]; exact hW⟩, hS.F ht⟩) (fun q hq => hS.2.2 q hq) hdg hlk
theorem cr_dret (X : cr_X Γ E cc nL own Ts rm rt) {vw : α → Option Value × cr_S} {a : α} {v : UInt64} (hr : rt = some .double) (ha : vw a = (some (.double v), S)) (hdg : decode cc pc = .ok (.dreturn, 1)) : cr_P Γ E nL (cr_F Γ E vw) 0 0 S pc lv [.double v] (some a) := by
  obtain ⟨p, l, e, R, s, m, args, below, meth, c⟩ := Γ
  obtain ⟨hx, hb, hml, hown, hts, hK, hEK, hSF, hlk, hRm, hrt⟩ := X
  rintro Q a' h1 ⟨post, hQ, hp⟩ H locs ls hW hS hls
  cases h1; subst hQ; rw [ha] at hp
  exact W.dret hx hb (hrt.trans hr) (fun t ht hWm => ⟨⟨_, _, rfl, hp, by rw [ht]; exact hW⟩, hS.F ht⟩) (fun q hq => hS.2.2 q hq) hdg hlk
/-- a contract out of the walk of the body -/
theorem cr_enter {l : Launch} {y : MethodName} {ws' : List Cond} {av : List Value} {vw : α → Option Value × cr_S} (hEK : cr_EK E) (hy : plainName y.cls = true) (hw : Ts = Cond.code y cc nL rt :: ws') (hlen : (lg_sl av).length ≤ nL)
    (hB : ∀ Γ : cr_C, Γ.2.1 = l → cr_X Γ E cc nL y.cls Ts rm rt → cr_P Γ E nL (cr_F Γ E vw) 0 0 S 0 (lv_args 0 av) [] res) : cr_M l E y Ts rm av S vw res := by
  intro a post h1 h2
  refine Met.ofW (cc := cc) (maxL := nL) (ret := rt) hy hw ?_
  intro p e s m args below meth c s₁ B hml hv
  obtain ⟨rfl, hWH, hK, hSF⟩ := hv
  have hl := lv_entry av (n := nL) hlen
  rw [lg_entry_eq]
  exact hB (p, l, e, _, s, m, _, below, meth, c) rfl ⟨B.exec, B.bytes, hml, findClass_of_methodNamed B.named, atoms_spec (ws := Ts) B.pre, hK, hEK, hSF, B.notSynchronized, rfl, B.returns⟩ _ a h1 ⟨post, rfl, h2⟩ s.heap [] _ hWH va_S.rf hl
end CR2
