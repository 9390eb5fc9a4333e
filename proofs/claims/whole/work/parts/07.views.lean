abbrev cr_vI (S : cr_S) : Int32 → Option Value × cr_S := fun a => (some (.int a), S)
abbrev cr_vB (S : cr_S) : Bool → Option Value × cr_S := fun a => (some (.int (cr_b a)), S)
abbrev cr_vL (S : cr_S) : Int64 → Option Value × cr_S := fun a => (some (.long a), S)
abbrev cr_vF (S : cr_S) : UInt32 → Option Value × cr_S := fun a => (some (.float a), S)
abbrev cr_vD (S : cr_S) : UInt64 → Option Value × cr_S := fun a => (some (.double a), S)
abbrev cr_vU (S : cr_S) : Unit → Option Value × cr_S := fun _ => (none, S)
abbrev cr_vVG (S0 : cr_S) (f : Nat) : cr_G → Option Value × cr_S := fun G => (none, cr_us S0 f G)
abbrev cr_vIG (S0 : cr_S) (f : Nat) : Int32 × cr_G → Option Value × cr_S := fun a => (some (.int a.1), cr_us S0 f a.2)
abbrev cr_vBG (S0 : cr_S) (f : Nat) : Bool × cr_G → Option Value × cr_S := fun a => (some (.int (cr_b a.1)), cr_us S0 f a.2)
abbrev cr_vLG (S0 : cr_S) (f : Nat) : Int64 × cr_G → Option Value × cr_S := fun a => (some (.long a.1), cr_us S0 f a.2)
abbrev cr_vFG (S0 : cr_S) (f : Nat) : UInt32 × cr_G → Option Value × cr_S := fun a => (some (.float a.1), cr_us S0 f a.2)
abbrev cr_vDG (S0 : cr_S) (f : Nat) : UInt64 × cr_G → Option Value × cr_S := fun a => (some (.double a.1), cr_us S0 f a.2)
abbrev cr_vVS : cr_S → Option Value × cr_S := fun S => (none, S)
abbrev cr_vIS : Int32 × cr_S → Option Value × cr_S := fun a => (some (.int a.1), a.2)
abbrev cr_vBS : Bool × cr_S → Option Value × cr_S := fun a => (some (.int (cr_b a.1)), a.2)
abbrev cr_vLS : Int64 × cr_S → Option Value × cr_S := fun a => (some (.long a.1), a.2)
section CR3
variable {α : Type} {Γ : cr_C} {E : cr_E} {nL : Nat} {Φ : α → (State → Prop) → Prop} {kc ks : Nat} {S : cr_S} {pc : Nat} {lv : List (Nat × Value)} {rest : List Value} {res : Option α} {cc : ByteArray} {own : String} {Ts : List Cond} {rm : Room} {rt : Option FieldType}
theorem cr_bds {kf : cr_S → Option α} {st : List Value} (k : ∀ S', cr_P Γ E nL Φ kc ks S' pc lv st (kf S')) : cr_P Γ E nL Φ kc ks S pc lv st (cr_bd S kf) := k S
theorem cr_mmax (X : cr_X Γ E cc nL own Ts rm rt) {index : Nat} (hlink : Cond.methodLink own index Lib.Math.max.name ∈ Ts) (hstat : Cond.static Lib.Math.max.name ∈ Ts) (hini : Cond.initialized "java/lang/Math" ∈ Ts) (hcode : Cond.code Lib.Math.max.name Lib.Math.max.code 2 (some .int) ∈ Ts) (hfr : 1 ≤ rm.frames) (hlo : (rest.map fun v => v.category).sum + 13 ≤ rm.locals) (hkk : kc ≤ rm.cells ∧ ks ≤ rm.slots) {x y : Int32} (hdg : decode cc pc = .ok (.invokestatic index, 3)) (kk : cr_P Γ E nL Φ kc ks S (pc + 3) lv (.int (cr_max x y) :: rest) res) : cr_P Γ E nL Φ kc ks S pc lv (.int y :: .int x :: rest) res := by
  obtain ⟨p, l, e, R, s, m, args, below, meth, c⟩ := Γ
  obtain ⟨hx, hb, hml, hown, hts, hK, hEK, hSF, hlk, hRm, hrt⟩ := X
  have hRm : R = rm := hRm
  subst hRm
  intro Q a h1 h2 H locs ls hW hS hls
  exact va_mmax hx hb (hml.trans hls.1.symm) hown (hts _ hlink) (hts _ hstat) (hts _ hini) (hts _ hcode) hfr hlo hkk.1 hkk.2 hdg (kk Q a h1 h2 H locs ls hW hS hls)
theorem cr_mmin (X : cr_X Γ E cc nL own Ts rm rt) {index : Nat} (hlink : Cond.methodLink own index Lib.Math.min.name ∈ Ts) (hstat : Cond.static Lib.Math.min.name ∈ Ts) (hini : Cond.initialized "java/lang/Math" ∈ Ts) (hcode : Cond.code Lib.Math.min.name Lib.Math.min.code 2 (some .int) ∈ Ts) (hfr : 1 ≤ rm.frames) (hlo : (rest.map fun v => v.category).sum + 13 ≤ rm.locals) (hkk : kc ≤ rm.cells ∧ ks ≤ rm.slots) {x y : Int32} (hdg : decode cc pc = .ok (.invokestatic index, 3)) (kk : cr_P Γ E nL Φ kc ks S (pc + 3) lv (.int (cr_min x y) :: rest) res) : cr_P Γ E nL Φ kc ks S pc lv (.int y :: .int x :: rest) res := by
  obtain ⟨p, l, e, R, s, m, args, below, meth, c⟩ := Γ
  obtain ⟨hx, hb, hml, hown, hts, hK, hEK, hSF, hlk, hRm, hrt⟩ := X
  have hRm : R = rm := hRm
  subst hRm
  intro Q a h1 h2 H locs ls hW hS hls
  exact va_mmin hx hb (hml.trans hls.1.symm) hown (hts _ hlink) (hts _ hstat) (hts _ hini) (hts _ hcode) hfr hlo hkk.1 hkk.2 hdg (kk Q a h1 h2 H locs ls hW hS hls)
theorem cr_mabs (X : cr_X Γ E cc nL own Ts rm rt) {index : Nat} (hlink : Cond.methodLink own index Lib.Math.abs.name ∈ Ts) (hstat : Cond.static Lib.Math.abs.name ∈ Ts) (hini : Cond.initialized "java/lang/Math" ∈ Ts) (hcode : Cond.code Lib.Math.abs.name Lib.Math.abs.code 1 (some .int) ∈ Ts) (hfr : 1 ≤ rm.frames) (hlo : (rest.map fun v => v.category).sum + 13 ≤ rm.locals) (hkk : kc ≤ rm.cells ∧ ks ≤ rm.slots) {x : Int32} (hdg : decode cc pc = .ok (.invokestatic index, 3)) (kk : cr_P Γ E nL Φ kc ks S (pc + 3) lv (.int (cr_abs x) :: rest) res) : cr_P Γ E nL Φ kc ks S pc lv (.int x :: rest) res := by
  obtain ⟨p, l, e, R, s, m, args, below, meth, c⟩ := Γ
  obtain ⟨hx, hb, hml, hown, hts, hK, hEK, hSF, hlk, hRm, hrt⟩ := X
  have hRm : R = rm := hRm
  subst hRm
  intro Q a h1 h2 H locs ls hW hS hls
  exact va_mabs hx hb (hml.trans hls.1.symm) hown (hts _ hlink) (hts _ hstat) (hts _ hini) (hts _ hcode) hfr (by omega) hkk.1 hkk.2 hdg (kk Q a h1 h2 H locs ls hW hS hls)
theorem cr_rawf (X : cr_X Γ E cc nL own Ts rm rt) {index : Nat} (hlink : Cond.methodLink own index ⟨"java/lang/Float", "floatToRawIntBits", "(F)I"⟩ ∈ Ts) (hnat : Cond.native ⟨"java/lang/Float", "floatToRawIntBits", "(F)I"⟩ ∈ Ts) (hstat : Cond.static ⟨"java/lang/Float", "floatToRawIntBits", "(F)I"⟩ ∈ Ts) (hini : Cond.initialized "java/lang/Float" ∈ Ts) (hfr : 1 ≤ rm.frames) (hlo : (rest.map fun v => v.category).sum + 15 ≤ rm.locals) {x : UInt32} (hdg : decode cc pc = .ok (.invokestatic index, 3)) (kk : cr_P Γ E nL Φ kc ks S (pc + 3) lv (.int x.toInt32 :: rest) res) : cr_P Γ E nL Φ kc ks S pc lv (.float x :: rest) res := by
  obtain ⟨p, l, e, R, s, m, args, below, meth, c⟩ := Γ
  obtain ⟨hx, hb, hml, hown, hts, hK, hEK, hSF, hlk, hRm, hrt⟩ := X
  have hRm : R = rm := hRm
  subst hRm
  intro Q a h1 h2 H locs ls hW hS hls
  exact vn_f2i hx hb (hml.trans hls.1.symm) hown (hts _ hlink) (hts _ hnat) (hts _ hstat) (hts _ hini) hfr hlo hdg (kk Q a h1 h2 H locs ls hW hS hls)
theorem cr_rawd (X : cr_X Γ E cc nL own Ts rm rt) {index : Nat} (hlink : Cond.methodLink own index ⟨"java/lang/Double", "doubleToRawLongBits", "(D)J"⟩ ∈ Ts) (hnat : Cond.native ⟨"java/lang/Double", "doubleToRawLongBits", "(D)J"⟩ ∈ Ts) (hstat : Cond.static ⟨"java/lang/Double", "doubleToRawLongBits", "(D)J"⟩ ∈ Ts) (hini : Cond.initialized "java/lang/Double" ∈ Ts) (hfr : 1 ≤ rm.frames) (hlo : (rest.map fun v => v.category).sum + 15 ≤ rm.locals) {x : UInt64} (hdg : decode cc pc = .ok (.invokestatic index, 3)) (kk : cr_P Γ E nL Φ kc ks S (pc + 3) lv (.long x.toInt64 :: rest) res) : cr_P Γ E nL Φ kc ks S pc lv (.double x :: rest) res := by
  obtain ⟨p, l, e, R, s, m, args, below, meth, c⟩ := Γ
  obtain ⟨hx, hb, hml, hown, hts, hK, hEK, hSF, hlk, hRm, hrt⟩ := X
  have hRm : R = rm := hRm
  subst hRm
  intro Q a h1 h2 H locs ls hW hS hls
  exact vn_d2l hx hb (hml.trans hls.1.symm) hown (hts _ hlink) (hts _ hnat) (hts _ hstat) (hts _ hini) hfr hlo hdg (kk Q a h1 h2 H locs ls hW hS hls)
/-- the reference's long -/
theorem cr_wc_ul {E : cr_E} {S : cr_S} {v : Int64} {f j : Nat} (h : ¬ (f = 9 ∧ j = 0)) (hl : cr_lv f j) : cr_wc E (cr_ul S 0 v) f j = cr_wc E S f j := by
  rcases hl with ⟨a, b⟩ | ⟨rfl, b⟩ | ⟨rfl, b⟩ | ⟨rfl, rfl⟩
  · simp only [cr_wc, a, if_true, cr_ul]
  · rfl
  · show cr_mc E (S.1 9) _ j = cr_mc E (S.1 9) _ j
    match j, b with
    | 0, _ => exact absurd ⟨rfl, rfl⟩ h
    | 1, _ => rfl
    | 2, _ => rfl
    | 3, _ => rfl
    | 4, _ => rfl
    | 5, _ => rfl
    | 6, _ => rfl
  · show (Sum.inl _ : va_E) = Sum.inl _
    refine congrArg Sum.inl (congrArg _ (congrArg _ (congrArg _ (congrArg _ (funext fun k => ?_)))))
    simp [cr_ul, vp_updL]
theorem cr_puth (X : cr_X Γ E cc nL own Ts rm rt) {v : Int64} (hin : ∀ w ∈ wsX90, w ∈ Ts) {index : Nat} (hlink : Cond.fieldLink own index "CraneCampaignModel" "h" "J" ∈ Ts) {kf : cr_S → Option α} (hdg : decode cc pc = .ok (.putfield index, 3)) (kk : ∀ S', cr_P Γ E nL Φ kc ks S' (pc + 3) lv rest (kf S')) : cr_P Γ E nL Φ kc ks S pc lv (.long v :: .ref (E.2.1 9 0) :: rest) (cr_bd (cr_ul S 0 v) kf) :=
  cr_put0 X (cr_ul S 0 v) ((cr_m0 E).at rfl rfl) rfl hin tyX9 tyX9_ok nmX9 8 (by decide) hlink rfl rfl rfl (Nat.le_of_ble_eq_true rfl) (by rw [(cr_m0 E).2]; rfl) (fun f' j' hn hl => cr_wc_ul hn hl) hdg (kk _)
theorem cr_wc_uo {E : cr_E} {S : cr_S} {v : Int64} {k f j : Nat} (h : ¬ (f = 10 ∧ j = 0)) (hl : cr_lv f j) : cr_wc E (cr_ul S (k + 1) v) f j = cr_wc E S f j := by
  rcases hl with ⟨a, b⟩ | ⟨rfl, b⟩ | ⟨rfl, b⟩ | ⟨rfl, rfl⟩
  · simp only [cr_wc, a, if_true, cr_ul]
  · rfl
  · show cr_mc E (S.1 9) (vp_updL S.2 (k + 1) v 0) j = cr_mc E (S.1 9) _ j
    have e : vp_updL S.2 (k + 1) v 0 = S.2 0 := by simp [vp_updL]
    rw [e]
  · exact absurd ⟨rfl, rfl⟩ h
theorem cr_lastS (X : cr_X Γ E cc nL own Ts rm rt) {i : Int32} {v : Int64} {kf : cr_S → Option α} (hdg : decode cc pc = .ok (.lastore, 1)) (kk : ∀ S', cr_P Γ E nL Φ kc ks S' (pc + 1) lv rest (kf S')) : cr_P Γ E nL Φ kc ks S pc lv (.long v :: .int i :: .ref (E.2.1 10 0) :: rest) (cr_gd (cr_in i 1) (cr_bd (cr_ul S (i.toNatClampNeg + 1) v) kf)) :=
  cr_last0 X (cr_ul S (i.toNatClampNeg + 1) v) ((cr_o0 E).at rfl rfl) (by
    rw [(cr_o0 E).2]
    refine congrArg Sum.inl (congrArg _ (congrArg _ (congrArg _ (congrArg _ (funext fun k => ?_)))))
    simp [cr_ul, vp_updL]) (fun f' j' hn hl => cr_wc_uo hn hl) hdg (kk _)
end CR3
/-- a contract for a method of a class of which some methods are run by entries (this one isn't): as Met.ofW, by its library's stronger form -/
theorem cr_ofWF {l : Launch} {y : MethodName} {ws ws' : List Cond} {rm : Room} {Pc : Array Value → State → Prop} {Qc : Array Value → State → Outcome → State → Prop} {mc ms : Nat} {free : Addr → Prop} {cc : ByteArray} {maxL : Nat} {ret : Option FieldType}
    (hy : plainFor y = true) (hw : ws = Cond.code y cc maxL ret :: ws')
    (body : ∀ p e s m args below meth c s₁, BodyLoose p l y (headSpec ws rm) cc maxL ret e s m args below meth c s₁ → c.maxLocals = maxL → Pc args s →
      W p l e (headSpec ws rm).room s m args below meth c s.heap [] 0 0 (MQ below Qc args s mc ms free) (entryFrame m args maxL)) : Met l y ws rm Pc Qc mc ms free := by
  refine MetFree.of_bodySF (code := cc) (maxLocals := maxL) (ret := ret) hy (fun args s m h hn => ?_) (fun p e s m args below meth c s₁ B hml hP _ => ?_)
  · obtain ⟨meth, c, h1, h2, h3, h4, h5, h6, -, -⟩ := Cond.code_spec hn (atoms_spec (ws := ws) h _ (by rw [hw]; exact List.mem_cons_self))
    exact ⟨meth, c, h1, h2, h3, h4, h5, h6⟩
  · obtain ⟨t, a1, o, b1, b2, b3⟩ := body p e s m args below meth c s₁ B hml hP s₁ (by rw [B.state]; rfl) (Stand.of_body B)
    exact ⟨t, o, a1, b1, b2, ⟨b3.1, b3.2⟩⟩
theorem cr_enterF {α : Type} {E : cr_E} {nL : Nat} {S : cr_S} {res : Option α} {cc : ByteArray} {Ts : List Cond} {rm : Room} {rt : Option FieldType} {l : Launch} {y : MethodName} {ws' : List Cond} {av : List Value} {vw : α → Option Value × cr_S} (hEK : cr_EK E) (hy : plainFor y = true) (hw : Ts = Cond.code y cc nL rt :: ws') (hlen : (lg_sl av).length ≤ nL)
    (hB : ∀ Γ : cr_C, Γ.2.1 = l → cr_X Γ E cc nL y.cls Ts rm rt → cr_P Γ E nL (cr_F Γ E vw) 0 0 S 0 (lv_args 0 av) [] res) : cr_M l E y Ts rm av S vw res := by
  intro a post h1 h2
  refine cr_ofWF (cc := cc) (maxL := nL) (ret := rt) hy hw ?_
  intro p e s m args below meth c s₁ B hml hv
  obtain ⟨rfl, hWH, hK, hSF⟩ := hv
  have hl := lv_entry av (n := nL) hlen
  rw [lg_entry_eq]
  exact hB (p, l, e, _, s, m, _, below, meth, c) rfl ⟨B.exec, B.bytes, hml, findClass_of_methodNamed B.named, atoms_spec (ws := Ts) B.pre, hK, hEK, hSF, B.notSynchronized, rfl, B.returns⟩ _ a h1 ⟨post, rfl, h2⟩ s.heap [] _ hWH va_S.rf hl
