abbrev cr_vI (S : cr_S) : Int32 → Option Value × cr_S := fun a => (some (.int a), S)
abbrev cr_vB (S : cr_S) : Bool → Option Value × cr_S := fun a => (some (.int (cr_b a)), S)
abbrev cr_vL (S : cr_S) : Int64 → Option Value × cr_S := fun a => (some (.long a), S)
abbrev cr_vF (S : cr_S) : UInt32 → Option Value × cr_S := fun a => (some (.float a), S)
abbrev cr_vD (S : cr_S) : UInt64 → Option Value × cr_S := fun a => (some (.double a), S)
abbrev cr_vU (S : cr_S) : Unit → Option Value × cr_S := fun _ => (none, S)
abbrev cr_vVG (S0 : cr_S) (f : Nat) : cr_G → Option Value × cr_S := fun G => (none, cr_us S0 f G)
abbrev cr_vIG (S0 : cr_S) (f : Nat) : Int32 × cr_G → Option Value × cr_S := fun a => (some (.int a.1), cr_us S0 f a.2)
abbrev cr_vBG (S0 : cr_S) (f : Nat) : Bool × cr_G → Option Value × cr_S := fun a => (some (.int (cr_b a.1)), cr_us S0 f a.2)
abbrev cr_vLG (S0 : cr_S) (f : Nat) : Int64 × cr_G → Option Value × cr_S := fun a => (some (.long a.1), cr_us S0 f a.2)
abbrev cr_vFG (S0 : cr_S) (f : Nat) : UInt32 × cr_G → Option Value × cr_S := fun a => (some (.float a.1), cr_us S0 f a.2)
abbrev cr_vDG (S0 : cr_S) (f : Nat) : UInt64 × cr_G → Option Value × cr_S := fun a => (some (.double a.1), cr_us S0 f a.2)
abbrev cr_vVS : cr_S → Option Value × cr_S := fun S => (none, S)
abbrev cr_vIS : Int32 × cr_S → Option Value × cr_S := fun a => (some (.int a.1), a.2)
abbrev cr_vBS : Bool × cr_S → Option Value × cr_S := fun a => (some (.int (cr_b a.1)), a.2)
abbrev cr_vLS : Int64 × cr_S → Option Value × cr_S := fun a => (some (.long a.1), a.2)
section CR3
variable {α : Type} {Γ : cr_C} {E : cr_E} {nL : Nat} {Φ : α → (State → Prop) → Prop} {kc ks : Nat} {S : cr_S} {pc : Nat} {lv : List (Nat × Value)} {rest : List Value} {res : Option α} {cc : ByteArray} {own : String} {Ts : List Cond} {rm : Room} {rt : Option FieldType}
theorem cr_bds {kf : cr_S → Option α} {st : List Value} (k : ∀ S', cr_P Γ E nL Φ kc ks S' pc lv st (kf S')) : cr_P Γ E nL Φ kc ks S pc lv st (cr_bd S kf) := k S
theorem cr_mmax (X : cr_X Γ E cc nL own Ts rm rt) {index : Nat} (hlink : Cond.methodLink own index Lib.Math.max.name ∈ Ts) (hstat : Cond.static Lib.Math.max.name ∈ Ts) (hini : Cond.initialized "java/lang/Math" ∈ Ts) (hcode : Cond.code Lib.Math.max.name Lib.Math.max.code 2 (some .int) ∈ Ts) (hfr : 1 ≤ rm.frames) (hlo : (rest.map fun v => v.category).sum + 13 ≤ rm.locals) (hkk : kc ≤ rm.cells ∧ ks ≤ rm.slots) {x y : Int32} (hdg : decode cc pc = .ok (.invokestatic index, 3)) (kk : cr_P Γ E nL Φ kc ks S (pc + 3) lv (.int (cr_max x y) :: rest) res) : cr_P Γ E nL Φ kc ks S pc lv (.int y :: .int x :: rest) res := by
  obtain ⟨p, l, e, R, s, m, args, below, meth, c⟩ := Γ
  obtain ⟨hx, hb, hml, hown, hts, hK, hEK, hSF, hlk, hRm, hrt⟩ := X
  have hRm : R = rm := hRm
  subst hRm
  intro Q a h1 h2 H locs ls hW hS hls
  exact va_mmax hx hb (hml.trans hls.1.symm) hown (hts _ hlink) (hts _ hstat) (hts _ hini) (hts _ hcode) hfr hlo hkk.1 hkk.2 hdg (kk Q a h1 h2 H locs ls hW hS hls)
theorem cr_mmin (X : cr_X Γ E cc nL own Ts rm rt) {index : Nat} (hlink : Cond.methodLink own index Lib.Math.min.name ∈ Ts) (hstat : Cond.static Lib.Math.min.name ∈ Ts) (hini : Cond.initialized "java/lang/Math" ∈ Ts) (hcode : Cond.code Lib.Math.min.name Lib.Math.min.code 2 (some .int) ∈ Ts) (hfr : 1 ≤ rm.frames) (hlo : (rest.map fun v => v.category).sum + 13 ≤ rm.locals) (hkk : kc ≤ rm.cells ∧ ks ≤ rm.slots) {x y : Int32} (hdg : decode cc pc = .ok (.invokestatic index, 3)) (kk : cr_P Γ E nL Φ kc ks S (pc + 3) lv (.int (cr_min x y) :: rest) res) : cr_P Γ E nL Φ kc ks S pc lv (.int y :: .int x :: rest) res := by
  obtain ⟨p, l, e, R, s, m, args, below, meth, c⟩ := Γ
  obtain ⟨hx, hb, hml, hown, hts, hK, hEK, hSF, hlk, hRm, hrt⟩ := X
  have hRm : R = rm := hRm
  subst hRm
  intro Q a h1 h2 H locs ls hW hS hls
  exact va_mmin hx hb (hml.trans hls.1.symm) hown (hts _ hlink) (hts _ hstat) (hts _ hini) (hts _ hcode) hfr hlo hkk.1 hkk.2 hdg (kk Q a h1 h2 H locs ls hW hS hls)
theorem cr_mabs (X : cr_X Γ E cc nL own Ts rm rt) {index : Nat} (hlink : Cond.methodLink own index Lib.Math.abs.name ∈ Ts) (hstat : Cond.static Lib.Math.abs.name ∈ Ts) (hini : Cond.initialized "java/lang/Math" ∈ Ts) (hcode : Cond.code Lib.Math.abs.name Lib.Math.abs.code 1 (some .int) ∈ Ts) (hfr : 1 ≤ rm.frames) (hlo : (rest.map fun v => v.category).sum + 13 ≤ rm.locals) (hkk : kc ≤ rm.cells ∧ ks ≤ rm.slots) {x : Int32} (hdg : decode cc pc = .ok (.invokestatic index, 3)) (kk : cr_P Γ E nL Φ kc ks S (pc + 3) lv (.int (cr_abs x) :: rest) res) : cr_P Γ E nL Φ kc ks S pc lv (.int x :: rest) res := by
  obtain ⟨p, l, e, R, s, m, args, below, meth, c⟩ := Γ
  obtain ⟨hx, hb, hml, hown, hts, hK, hEK, hSF, hlk, hRm, hrt⟩ := X
  have hRm : R = rm := hRm
  subst hRm
  intro Q a h1 h2 H locs ls hW hS hls
  exact va_mabs hx hb (hml.trans hls.1.symm) hown (hts _ hlink) (hts _ hstat) (hts _ hini) (hts _ hcode) hfr (by omega) hkk.1 hkk.2 hdg (kk Q a h1 h2 H locs ls hW hS hls)
end CR3
section CR4
variable {α : Type} {Γ : cr_C} {E : cr_E} {nL : Nat} {kc ks  : Nat} {S S0 : cr_S} {pc : Nat} {lv : List (Nat × Value)} {rest : List Value} {cc : ByteArray} {own : String} {Ts : List Cond} {rm : Room} {rt : Option FieldType}
theorem cr_ldcwf {Φ : α → (State → Prop) → Prop} {res : Option α} (X : cr_X Γ E cc nL own Ts rm rt) {index : Nat} {v : UInt32} (hc : Cond.constantFloat own index v ∈ Ts) (hdg : decode cc pc = .ok (.ldc_w index, 3)) (kk : cr_P Γ E nL Φ kc ks S (pc + 3) lv (.float v :: rest) res) : cr_P Γ E nL Φ kc ks S pc lv rest res := by
  obtain ⟨p, l, e, R, s, m, args, below, meth, c⟩ := Γ
  obtain ⟨hx, hb, hml, hown, hts, -⟩ := X
  intro Q a h1 h2 H locs ls hW hS hls T hT X9
  have hx : p.tables.exec = Jvm.exec := hx
  have hb : c.code = cc := hb
  obtain ⟨k, cf, hk, hcf, hcp⟩ := Cond.constantFloat_spec hown (hts _ hc)
  obtain ⟨k', hk', he⟩ := X9.warmed.alike.2.2 _ _ hk
  have hd9 : decode c.code pc = .ok (.ldc_w index, 3) := by rw [hb]; exact hdg
  obtain ⟨t, a1, b1⟩ := kk Q a h1 h2 H locs ls hW hS hls T hT X9
  refine ⟨t, ?_, b1⟩
  show Steps p.tables e below (T.setTop (F0 m pc ls rest)) t
  jvm_step X9.here [hx, hd9, ldc_w.wp_float (s := T) (f := F0 m pc ls rest) X9.here.top hk' (by rw [he]; exact hcf) hcp]
  exact a1
/-- the static rows of numbers -/
theorem cr_gets (X : cr_X Γ E cc nL own Ts rm rt) {Φ : α → (State → Prop) → Prop} {res : Option α} {n : String} {N : Nat} {f : Nat → Int32} (hown9 : own = "CraneCampaign") (hsa : cr_SA n "[I" N f E Γ.2.2.2.2.1) {index : Nat} (hlink : Cond.fieldLink own index "CraneCampaign" n "[I" ∈ Ts) (hdg : decode cc pc = .ok (.getstatic index, 3)) (kk : ∀ b, va_T .int b N (fun j => .int (f j)) E.2.2.1 Γ.2.2.2.2.1 Γ.2.2.2.2.1.heap → cr_P Γ E nL Φ kc ks S (pc + 3) lv (.ref b :: rest) res) : cr_P Γ E nL Φ kc ks S pc lv rest res := by
  obtain ⟨p, l, e, R, s, m, args, below, meth, c⟩ := Γ
  obtain ⟨hx, hb, hml, hown, hts, hK, hEK, hSF, hlk, hRm, hrt⟩ := X
  obtain ⟨b, h1, h2⟩ := hsa
  intro Q a g1 g2 H locs ls hW hS hls
  exact va_gets hx hb h1 hS hown (hts _ hlink) (fun _ h9 => h9) hdg (kk b h2 Q a g1 g2 H locs ls hW hS hls)
theorem cr_gets1 (X : cr_X Γ E cc nL own Ts rm rt) {Φ : α → (State → Prop) → Prop} {res : Option α} (hown9 : own = "CraneCampaign") {index : Nat} (hlink : Cond.fieldLink own index "CraneCampaign" "SETTING_LOWEST" "[I" ∈ Ts) (hdg : decode cc pc = .ok (.getstatic index, 3)) (kk : ∀ b, va_T .int b 7 (fun j => .int (cr_c1 j)) E.2.2.1 Γ.2.2.2.2.1 Γ.2.2.2.2.1.heap → cr_P Γ E nL Φ kc ks S (pc + 3) lv (.ref b :: rest) res) : cr_P Γ E nL Φ kc ks S pc lv rest res := cr_gets X hown9 X.2.2.2.2.2.2.2.1.2.1 hlink hdg kk
theorem cr_gets2 (X : cr_X Γ E cc nL own Ts rm rt) {Φ : α → (State → Prop) → Prop} {res : Option α} (hown9 : own = "CraneCampaign") {index : Nat} (hlink : Cond.fieldLink own index "CraneCampaign" "SETTING_HIGHEST" "[I" ∈ Ts) (hdg : decode cc pc = .ok (.getstatic index, 3)) (kk : ∀ b, va_T .int b 7 (fun j => .int (cr_c2 j)) E.2.2.1 Γ.2.2.2.2.1 Γ.2.2.2.2.1.heap → cr_P Γ E nL Φ kc ks S (pc + 3) lv (.ref b :: rest) res) : cr_P Γ E nL Φ kc ks S pc lv rest res := cr_gets X hown9 X.2.2.2.2.2.2.2.1.2.2 hlink hdg kk
theorem cr_satd (X : cr_X Γ E cc nL own Ts rm rt) {Φ : α → (State → Prop) → Prop} {res : Option α} {b N : Nat} {f : Nat → Int32} (hb9 : va_T .int b N (fun j => .int (f j)) E.2.2.1 Γ.2.2.2.2.1 Γ.2.2.2.2.1.heap) {i : Int32} (hdg : decode cc pc = .ok (.iaload, 1)) (kk : cr_P Γ E nL Φ kc ks S (pc + 1) lv (.int (f i.toNatClampNeg) :: rest) res) : cr_P Γ E nL Φ kc ks S pc lv (.int i :: .ref b :: rest) (cr_gd (cr_in i N) res) := by
  refine cr_gdi (fun hg => ?_)
  have hg : vp_in i N := (show ¬ (i < 0 ∨ N ≤ i.toNatClampNeg) from of_decide_eq_true hg)
  obtain ⟨p, l, e, R, s, m, args, below, meth, c⟩ := Γ
  obtain ⟨hx, hb, -⟩ := X
  intro Q a g1 g2 H locs ls hW hS hls
  exact va_ti hx hb hb9 hS hg rfl hdg (kk Q a g1 g2 H locs ls hW hS hls)
theorem cr_sald (X : cr_X Γ E cc nL own Ts rm rt) {Φ : α → (State → Prop) → Prop} {res : Option α} {b N : Nat} {f : Nat → Int32} (hb9 : va_X b N f Γ.2.2.2.2.1 Γ.2.2.2.2.1.heap ∧ b < Γ.2.2.2.2.1.heap.size ∧ ¬ E.2.2.1 b) {i : Int32} (hdg : decode cc pc = .ok (.iaload, 1)) (kk : cr_P Γ E nL Φ kc ks S (pc + 1) lv (.int (f i.toNatClampNeg) :: rest) res) : cr_P Γ E nL Φ kc ks S pc lv (.int i :: .ref b :: rest) (cr_gd (cr_in i N) res) := by
  refine cr_gdi (fun hg => ?_)
  have hg : vp_in i N := (show ¬ (i < 0 ∨ N ≤ i.toNatClampNeg) from of_decide_eq_true hg)
  obtain ⟨p, l, e, R, s, m, args, below, meth, c⟩ := Γ
  obtain ⟨hx, hb, -⟩ := X
  intro Q a g1 g2 H locs ls hW hS hls
  exact va_sld hx hb hb9.1 hb9.2.1 hb9.2.2 hS hg hdg (kk Q a g1 g2 H locs ls hW hS hls)
theorem cr_widen {Φ : α → (State → Prop) → Prop} {res : Option α} {st : List Value} (k1 n1 : Nat) (h1 : kc ≤ k1) (h2 : ks ≤ n1) (kk : cr_P Γ E nL Φ k1 n1 S pc lv st res) : cr_P Γ E nL Φ kc ks S pc lv st res :=
  fun Q a g1 g2 H locs ls hW hS hls => W.widen h1 h2 (kk Q a g1 g2 H locs ls hW hS hls)
theorem cr_iinc0 {Φ : α → (State → Prop) → Prop} {res : Option α} (X : cr_X Γ E cc nL own Ts rm rt) {i : Nat} {n : Int} {x : Int32} (v : Int32) (lv' : List (Nat × Value)) (q : Nat) (hk : lv[q]? = some (i, .int x)) (hv : x + Int32.ofInt n = v) (hl : (i, Value.int v) :: lv.filter (fun q => !(q.1 == i) && !(q.1 + 1 == i && q.2.category == 2)) = lv') (hn : i < nL) (hdg : decode cc pc = .ok (.iinc i n, 3)) (kk : cr_P Γ E nL Φ kc ks S (pc + 3) lv' rest res) : cr_P Γ E nL Φ kc ks S pc lv rest res := by
  obtain ⟨p, l, e, R, s, m, args, below, meth, c⟩ := Γ
  obtain ⟨hx, hb, -⟩ := X
  intro Q a h1 h2 H locs ls hW hS hls
  exact lv_iinc hx hb hdg hls hk hv hn hl (fun ls' h' => kk Q a h1 h2 H locs ls' hW hS h')
theorem cr_slen {Φ : α → (State → Prop) → Prop} {res : Option α} (X : cr_X Γ E cc nL own Ts rm rt) {b N : Nat} {f : Nat → Int32} (hb9 : va_X b N f Γ.2.2.2.2.1 Γ.2.2.2.2.1.heap ∧ b < Γ.2.2.2.2.1.heap.size ∧ ¬ E.2.2.1 b) (hdg : decode cc pc = .ok (.arraylength, 1)) (kk : cr_P Γ E nL Φ kc ks S (pc + 1) lv (.int (nI N) :: rest) res) : cr_P Γ E nL Φ kc ks S pc lv (.ref b :: rest) res := by
  obtain ⟨p, l, e, R, s, m, args, below, meth, c⟩ := Γ
  obtain ⟨hx, hb, -⟩ := X
  intro Q a g1 g2 H locs ls hW hS hls
  exact va_slen hx hb hb9.1 hb9.2.1 hb9.2.2 hS hdg (kk Q a g1 g2 H locs ls hW hS hls)
end CR4
