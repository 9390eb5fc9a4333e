section CR
variable {α : Type} {Γ : cr_C} {E : cr_E} {nL : Nat} {Φ : α → (State → Prop) → Prop} {kc ks : Nat} {S : cr_S} {pc : Nat} {lv : List (Nat × Value)} {rest : List Value} {res : Option α} {cc : ByteArray} {own : String} {Ts : List Cond} {rm : Room} {rt : Option FieldType}

theorem cr_iconst (X : cr_X Γ E cc nL own Ts rm rt) {n : Int} (v : Int32) (hv : Int32.ofInt n = v) (hdg : decode cc pc = .ok (.iconst n, 1)) (kk : cr_P Γ E nL Φ kc ks S (pc + 1) lv (.int v :: rest) res) : cr_P Γ E nL Φ kc ks S pc lv (rest) res := by
  obtain ⟨p, l, e, R, s, m, args, below, meth, c⟩ := Γ
  obtain ⟨hx, hb, -⟩ := X
  intro Q a h1 h2 H locs ls hW hS hls
  exact lv_iconst hx hb hdg hv (kk Q a h1 h2 H locs ls hW hS hls)

theorem cr_bipush (X : cr_X Γ E cc nL own Ts rm rt) {n : Int} (v : Int32) (hv : (Int8.ofInt n).toInt32 = v) (hdg : decode cc pc = .ok (.bipush n, 2)) (kk : cr_P Γ E nL Φ kc ks S (pc + 2) lv (.int v :: rest) res) : cr_P Γ E nL Φ kc ks S pc lv (rest) res := by
  obtain ⟨p, l, e, R, s, m, args, below, meth, c⟩ := Γ
  obtain ⟨hx, hb, -⟩ := X
  intro Q a h1 h2 H locs ls hW hS hls
  exact lv_bipush hx hb hdg hv (kk Q a h1 h2 H locs ls hW hS hls)

theorem cr_sipush (X : cr_X Γ E cc nL own Ts rm rt) {n : Int} (v : Int32) (hv : (Int16.ofInt n).toInt32 = v) (hdg : decode cc pc = .ok (.sipush n, 3)) (kk : cr_P Γ E nL Φ kc ks S (pc + 3) lv (.int v :: rest) res) : cr_P Γ E nL Φ kc ks S pc lv (rest) res := by
  obtain ⟨p, l, e, R, s, m, args, below, meth, c⟩ := Γ
  obtain ⟨hx, hb, -⟩ := X
  intro Q a h1 h2 H locs ls hW hS hls
  exact lv_sipush hx hb hdg hv (kk Q a h1 h2 H locs ls hW hS hls)

theorem cr_lconst (X : cr_X Γ E cc nL own Ts rm rt) {n : Fin 2} (v : Int64) (hv : Int64.ofNat (n : Nat) = v) (hdg : decode cc pc = .ok (.lconst n, 1)) (kk : cr_P Γ E nL Φ kc ks S (pc + 1) lv (.long v :: rest) res) : cr_P Γ E nL Φ kc ks S pc lv (rest) res := by
  obtain ⟨p, l, e, R, s, m, args, below, meth, c⟩ := Γ
  obtain ⟨hx, hb, -⟩ := X
  intro Q a h1 h2 H locs ls hW hS hls
  exact lv_lconst hx hb hdg hv (kk Q a h1 h2 H locs ls hW hS hls)

theorem cr_ldc (X : cr_X Γ E cc nL own Ts rm rt) {index : Nat} {v : Int32} (hc : Cond.constant own index v ∈ Ts) (hdg : decode cc pc = .ok (.ldc index, 2)) (kk : cr_P Γ E nL Φ kc ks S (pc + 2) lv (.int v :: rest) res) : cr_P Γ E nL Φ kc ks S pc lv (rest) res := by
  obtain ⟨p, l, e, R, s, m, args, below, meth, c⟩ := Γ
  obtain ⟨hx, hb, hml, hown, hts, -⟩ := X
  intro Q a h1 h2 H locs ls hW hS hls
  exact lv_ldc hx hb hown (hts _ hc) hdg (kk Q a h1 h2 H locs ls hW hS hls)

theorem cr_ldcw (X : cr_X Γ E cc nL own Ts rm rt) {index : Nat} {v : Int32} (hc : Cond.constant own index v ∈ Ts) (hdg : decode cc pc = .ok (.ldc_w index, 3)) (kk : cr_P Γ E nL Φ kc ks S (pc + 3) lv (.int v :: rest) res) : cr_P Γ E nL Φ kc ks S pc lv (rest) res := by
  obtain ⟨p, l, e, R, s, m, args, below, meth, c⟩ := Γ
  obtain ⟨hx, hb, hml, hown, hts, -⟩ := X
  intro Q a h1 h2 H locs ls hW hS hls
  exact lv_ldcw hx hb hown (hts _ hc) hdg (kk Q a h1 h2 H locs ls hW hS hls)

theorem cr_ldc2 (X : cr_X Γ E cc nL own Ts rm rt) {index : Nat} {v : Int64} (hc : Cond.constantLong own index v ∈ Ts) (hdg : decode cc pc = .ok (.ldc2_w index, 3)) (kk : cr_P Γ E nL Φ kc ks S (pc + 3) lv (.long v :: rest) res) : cr_P Γ E nL Φ kc ks S pc lv (rest) res := by
  obtain ⟨p, l, e, R, s, m, args, below, meth, c⟩ := Γ
  obtain ⟨hx, hb, hml, hown, hts, -⟩ := X
  intro Q a h1 h2 H locs ls hW hS hls
  exact lv_ldc2 hx hb hown (hts _ hc) hdg (kk Q a h1 h2 H locs ls hW hS hls)

theorem cr_ldcf (X : cr_X Γ E cc nL own Ts rm rt) {index : Nat} {v : UInt32} (hc : Cond.constantFloat own index v ∈ Ts) (hdg : decode cc pc = .ok (.ldc index, 2)) (kk : cr_P Γ E nL Φ kc ks S (pc + 2) lv (.float v :: rest) res) : cr_P Γ E nL Φ kc ks S pc lv (rest) res := by
  obtain ⟨p, l, e, R, s, m, args, below, meth, c⟩ := Γ
  obtain ⟨hx, hb, hml, hown, hts, -⟩ := X
  intro Q a h1 h2 H locs ls hW hS hls
  exact lv_ldcf hx hb hown (hts _ hc) hdg (kk Q a h1 h2 H locs ls hW hS hls)

theorem cr_ldc2d (X : cr_X Γ E cc nL own Ts rm rt) {index : Nat} {v : UInt64} (hc : Cond.constantDouble own index v ∈ Ts) (hdg : decode cc pc = .ok (.ldc2_w index, 3)) (kk : cr_P Γ E nL Φ kc ks S (pc + 3) lv (.double v :: rest) res) : cr_P Γ E nL Φ kc ks S pc lv (rest) res := by
  obtain ⟨p, l, e, R, s, m, args, below, meth, c⟩ := Γ
  obtain ⟨hx, hb, hml, hown, hts, -⟩ := X
  intro Q a h1 h2 H locs ls hW hS hls
  exact lv_ldc2d hx hb hown (hts _ hc) hdg (kk Q a h1 h2 H locs ls hW hS hls)

theorem cr_iload_n (X : cr_X Γ E cc nL own Ts rm rt) {k : Fin 4} {x : Int32} (q : Nat) (hl : lv[q]? = some ((k : Nat), .int x)) (hdg : decode cc pc = .ok (.iload_n k, 1)) (kk : cr_P Γ E nL Φ kc ks S (pc + 1) lv (.int x :: rest) res) : cr_P Γ E nL Φ kc ks S pc lv (rest) res := by
  obtain ⟨p, l, e, R, s, m, args, below, meth, c⟩ := Γ
  obtain ⟨hx, hb, -⟩ := X
  intro Q a h1 h2 H locs ls hW hS hls
  exact lv_iload_n hx hb hdg rfl (lv_at hls q hl) (kk Q a h1 h2 H locs ls hW hS hls)
theorem cr_iload (X : cr_X Γ E cc nL own Ts rm rt) {i : Nat} {x : Int32} (q : Nat) (hl : lv[q]? = some (i, .int x)) (hdg : decode cc pc = .ok (.iload i, 2)) (kk : cr_P Γ E nL Φ kc ks S (pc + 2) lv (.int x :: rest) res) : cr_P Γ E nL Φ kc ks S pc lv (rest) res := by
  obtain ⟨p, l, e, R, s, m, args, below, meth, c⟩ := Γ
  obtain ⟨hx, hb, -⟩ := X
  intro Q a h1 h2 H locs ls hW hS hls
  exact lv_iload hx hb hdg (lv_at hls q hl) (kk Q a h1 h2 H locs ls hW hS hls)

theorem cr_istore_n (X : cr_X Γ E cc nL own Ts rm rt) {k : Fin 4} {x : Int32} (lv' : List (Nat × Value)) (hl : ((k : Nat), Value.int x) :: lv.filter (fun q => !(q.1 == (k : Nat)) && !(q.1 + 1 == (k : Nat) && q.2.category == 2)) = lv') (hn : (k : Nat) < nL) (hdg : decode cc pc = .ok (.istore_n k, 1)) (kk : cr_P Γ E nL Φ kc ks S (pc + 1) lv' (rest) res) : cr_P Γ E nL Φ kc ks S pc lv (.int x :: rest) res := by
  obtain ⟨p, l, e, R, s, m, args, below, meth, c⟩ := Γ
  obtain ⟨hx, hb, -⟩ := X
  intro Q a h1 h2 H locs ls hW hS hls
  exact lv_istore_n hx hb hdg rfl hls hn hl (fun ls' h' => kk Q a h1 h2 H locs ls' hW hS h')

theorem cr_istore_nb (X : cr_X Γ E cc nL own Ts rm rt) {k : Fin 4} {x : Int32} {kf : Int32 → Option α} (lv' : Int32 → List (Nat × Value)) (hl : ∀ x, ((k : Nat), Value.int x) :: lv.filter (fun q => !(q.1 == (k : Nat)) && !(q.1 + 1 == (k : Nat) && q.2.category == 2)) = lv' x) (hn : (k : Nat) < nL) (hdg : decode cc pc = .ok (.istore_n k, 1)) (kk : ∀ x, cr_P Γ E nL Φ kc ks S (pc + 1) (lv' x) (rest) (kf x)) : cr_P Γ E nL Φ kc ks S pc lv (.int x :: rest) (cr_bd x kf) :=
  cr_istore_n X (lv' x) (hl x) hn hdg (kk x)

theorem cr_istore (X : cr_X Γ E cc nL own Ts rm rt) {i : Nat} {x : Int32} (lv' : List (Nat × Value)) (hl : (i, Value.int x) :: lv.filter (fun q => !(q.1 == i) && !(q.1 + 1 == i && q.2.category == 2)) = lv') (hn : i < nL) (hdg : decode cc pc = .ok (.istore i, 2)) (kk : cr_P Γ E nL Φ kc ks S (pc + 2) lv' (rest) res) : cr_P Γ E nL Φ kc ks S pc lv (.int x :: rest) res := by
  obtain ⟨p, l, e, R, s, m, args, below, meth, c⟩ := Γ
  obtain ⟨hx, hb, -⟩ := X
  intro Q a h1 h2 H locs ls hW hS hls
  exact lv_istore hx hb hdg hls hn hl (fun ls' h' => kk Q a h1 h2 H locs ls' hW hS h')

theorem cr_istoreb (X : cr_X Γ E cc nL own Ts rm rt) {i : Nat} {x : Int32} {kf : Int32 → Option α} (lv' : Int32 → List (Nat × Value)) (hl : ∀ x, (i, Value.int x) :: lv.filter (fun q => !(q.1 == i) && !(q.1 + 1 == i && q.2.category == 2)) = lv' x) (hn : i < nL) (hdg : decode cc pc = .ok (.istore i, 2)) (kk : ∀ x, cr_P Γ E nL Φ kc ks S (pc + 2) (lv' x) (rest) (kf x)) : cr_P Γ E nL Φ kc ks S pc lv (.int x :: rest) (cr_bd x kf) :=
  cr_istore X (lv' x) (hl x) hn hdg (kk x)

theorem cr_lload_n (X : cr_X Γ E cc nL own Ts rm rt) {k : Fin 4} {x : Int64} (q : Nat) (hl : lv[q]? = some ((k : Nat), .long x)) (hdg : decode cc pc = .ok (.lload_n k, 1)) (kk : cr_P Γ E nL Φ kc ks S (pc + 1) lv (.long x :: rest) res) : cr_P Γ E nL Φ kc ks S pc lv (rest) res := by
  obtain ⟨p, l, e, R, s, m, args, below, meth, c⟩ := Γ
  obtain ⟨hx, hb, -⟩ := X
  intro Q a h1 h2 H locs ls hW hS hls
  exact lv_lload_n hx hb hdg rfl (lv_at hls q hl) (kk Q a h1 h2 H locs ls hW hS hls)
theorem cr_lload (X : cr_X Γ E cc nL own Ts rm rt) {i : Nat} {x : Int64} (q : Nat) (hl : lv[q]? = some (i, .long x)) (hdg : decode cc pc = .ok (.lload i, 2)) (kk : cr_P Γ E nL Φ kc ks S (pc + 2) lv (.long x :: rest) res) : cr_P Γ E nL Φ kc ks S pc lv (rest) res := by
  obtain ⟨p, l, e, R, s, m, args, below, meth, c⟩ := Γ
  obtain ⟨hx, hb, -⟩ := X
  intro Q a h1 h2 H locs ls hW hS hls
  exact lv_lload hx hb hdg (lv_at hls q hl) (kk Q a h1 h2 H locs ls hW hS hls)

theorem cr_lstore_n (X : cr_X Γ E cc nL own Ts rm rt) {k : Fin 4} {x : Int64} (lv' : List (Nat × Value)) (hl : ((k : Nat), Value.long x) :: lv.filter (fun q => !(q.1 == (k : Nat)) && (!(q.1 == (k : Nat) + 1) && !(q.1 + 1 == (k : Nat) && q.2.category == 2))) = lv') (hn : (k : Nat) + 1 < nL) (hdg : decode cc pc = .ok (.lstore_n k, 1)) (kk : cr_P Γ E nL Φ kc ks S (pc + 1) lv' (rest) res) : cr_P Γ E nL Φ kc ks S pc lv (.long x :: rest) res := by
  obtain ⟨p, l, e, R, s, m, args, below, meth, c⟩ := Γ
  obtain ⟨hx, hb, -⟩ := X
  intro Q a h1 h2 H locs ls hW hS hls
  exact lv_lstore_n hx hb hdg rfl hls hn hl (fun ls' h' => kk Q a h1 h2 H locs ls' hW hS h')

theorem cr_lstore_nb (X : cr_X Γ E cc nL own Ts rm rt) {k : Fin 4} {x : Int64} {kf : Int64 → Option α} (lv' : Int64 → List (Nat × Value)) (hl : ∀ x, ((k : Nat), Value.long x) :: lv.filter (fun q => !(q.1 == (k : Nat)) && (!(q.1 == (k : Nat) + 1) && !(q.1 + 1 == (k : Nat) && q.2.category == 2))) = lv' x) (hn : (k : Nat) + 1 < nL) (hdg : decode cc pc = .ok (.lstore_n k, 1)) (kk : ∀ x, cr_P Γ E nL Φ kc ks S (pc + 1) (lv' x) (rest) (kf x)) : cr_P Γ E nL Φ kc ks S pc lv (.long x :: rest) (cr_bd x kf) :=
  cr_lstore_n X (lv' x) (hl x) hn hdg (kk x)

theorem cr_lstore (X : cr_X Γ E cc nL own Ts rm rt) {i : Nat} {x : Int64} (lv' : List (Nat × Value)) (hl : (i, Value.long x) :: lv.filter (fun q => !(q.1 == i) && (!(q.1 == i + 1) && !(q.1 + 1 == i && q.2.category == 2))) = lv') (hn : i + 1 < nL) (hdg : decode cc pc = .ok (.lstore i, 2)) (kk : cr_P Γ E nL Φ kc ks S (pc + 2) lv' (rest) res) : cr_P Γ E nL Φ kc ks S pc lv (.long x :: rest) res := by
  obtain ⟨p, l, e, R, s, m, args, below, meth, c⟩ := Γ
  obtain ⟨hx, hb, -⟩ := X
  intro Q a h1 h2 H locs ls hW hS hls
  exact lv_lstore hx hb hdg hls hn hl (fun ls' h' => kk Q a h1 h2 H locs ls' hW hS h')

theorem cr_lstoreb (X : cr_X Γ E cc nL own Ts rm rt) {i : Nat} {x : Int64} {kf : Int64 → Option α} (lv' : Int64 → List (Nat × Value)) (hl : ∀ x, (i, Value.long x) :: lv.filter (fun q => !(q.1 == i) && (!(q.1 == i + 1) && !(q.1 + 1 == i && q.2.category == 2))) = lv' x) (hn : i + 1 < nL) (hdg : decode cc pc = .ok (.lstore i, 2)) (kk : ∀ x, cr_P Γ E nL Φ kc ks S (pc + 2) (lv' x) (rest) (kf x)) : cr_P Γ E nL Φ kc ks S pc lv (.long x :: rest) (cr_bd x kf) :=
  cr_lstore X (lv' x) (hl x) hn hdg (kk x)

theorem cr_fload_n (X : cr_X Γ E cc nL own Ts rm rt) {k : Fin 4} {x : UInt32} (q : Nat) (hl : lv[q]? = some ((k : Nat), .float x)) (hdg : decode cc pc = .ok (.fload_n k, 1)) (kk : cr_P Γ E nL Φ kc ks S (pc + 1) lv (.float x :: rest) res) : cr_P Γ E nL Φ kc ks S pc lv (rest) res := by
  obtain ⟨p, l, e, R, s, m, args, below, meth, c⟩ := Γ
  obtain ⟨hx, hb, -⟩ := X
  intro Q a h1 h2 H locs ls hW hS hls
  exact lv_fload_n hx hb hdg rfl (lv_at hls q hl) (kk Q a h1 h2 H locs ls hW hS hls)
theorem cr_fload (X : cr_X Γ E cc nL own Ts rm rt) {i : Nat} {x : UInt32} (q : Nat) (hl : lv[q]? = some (i, .float x)) (hdg : decode cc pc = .ok (.fload i, 2)) (kk : cr_P Γ E nL Φ kc ks S (pc + 2) lv (.float x :: rest) res) : cr_P Γ E nL Φ kc ks S pc lv (rest) res := by
  obtain ⟨p, l, e, R, s, m, args, below, meth, c⟩ := Γ
  obtain ⟨hx, hb, -⟩ := X
  intro Q a h1 h2 H locs ls hW hS hls
  exact lv_fload hx hb hdg (lv_at hls q hl) (kk Q a h1 h2 H locs ls hW hS hls)

theorem cr_fstore_n (X : cr_X Γ E cc nL own Ts rm rt) {k : Fin 4} {x : UInt32} (lv' : List (Nat × Value)) (hl : ((k : Nat), Value.float x) :: lv.filter (fun q => !(q.1 == (k : Nat)) && !(q.1 + 1 == (k : Nat) && q.2.category == 2)) = lv') (hn : (k : Nat) < nL) (hdg : decode cc pc = .ok (.fstore_n k, 1)) (kk : cr_P Γ E nL Φ kc ks S (pc + 1) lv' (rest) res) : cr_P Γ E nL Φ kc ks S pc lv (.float x :: rest) res := by
  obtain ⟨p, l, e, R, s, m, args, below, meth, c⟩ := Γ
  obtain ⟨hx, hb, -⟩ := X
  intro Q a h1 h2 H locs ls hW hS hls
  exact lv_fstore_n hx hb hdg rfl hls hn hl (fun ls' h' => kk Q a h1 h2 H locs ls' hW hS h')

theorem cr_fstore_nb (X : cr_X Γ E cc nL own Ts rm rt) {k : Fin 4} {x : UInt32} {kf : UInt32 → Option α} (lv' : UInt32 → List (Nat × Value)) (hl : ∀ x, ((k : Nat), Value.float x) :: lv.filter (fun q => !(q.1 == (k : Nat)) && !(q.1 + 1 == (k : Nat) && q.2.category == 2)) = lv' x) (hn : (k : Nat) < nL) (hdg : decode cc pc = .ok (.fstore_n k, 1)) (kk : ∀ x, cr_P Γ E nL Φ kc ks S (pc + 1) (lv' x) (rest) (kf x)) : cr_P Γ E nL Φ kc ks S pc lv (.float x :: rest) (cr_bd x kf) :=
  cr_fstore_n X (lv' x) (hl x) hn hdg (kk x)

theorem cr_fstore (X : cr_X Γ E cc nL own Ts rm rt) {i : Nat} {x : UInt32} (lv' : List (Nat × Value)) (hl : (i, Value.float x) :: lv.filter (fun q => !(q.1 == i) && !(q.1 + 1 == i && q.2.category == 2)) = lv') (hn : i < nL) (hdg : decode cc pc = .ok (.fstore i, 2)) (kk : cr_P Γ E nL Φ kc ks S (pc + 2) lv' (rest) res) : cr_P Γ E nL Φ kc ks S pc lv (.float x :: rest) res := by
  obtain ⟨p, l, e, R, s, m, args, below, meth, c⟩ := Γ
  obtain ⟨hx, hb, -⟩ := X
  intro Q a h1 h2 H locs ls hW hS hls
  exact lv_fstore hx hb hdg hls hn hl (fun ls' h' => kk Q a h1 h2 H locs ls' hW hS h')

theorem cr_fstoreb (X : cr_X Γ E cc nL own Ts rm rt) {i : Nat} {x : UInt32} {kf : UInt32 → Option α} (lv' : UInt32 → List (Nat × Value)) (hl : ∀ x, (i, Value.float x) :: lv.filter (fun q => !(q.1 == i) && !(q.1 + 1 == i && q.2.category == 2)) = lv' x) (hn : i < nL) (hdg : decode cc pc = .ok (.fstore i, 2)) (kk : ∀ x, cr_P Γ E nL Φ kc ks S (pc + 2) (lv' x) (rest) (kf x)) : cr_P Γ E nL Φ kc ks S pc lv (.float x :: rest) (cr_bd x kf) :=
  cr_fstore X (lv' x) (hl x) hn hdg (kk x)

theorem cr_dload_n (X : cr_X Γ E cc nL own Ts rm rt) {k : Fin 4} {x : UInt64} (q : Nat) (hl : lv[q]? = some ((k : Nat), .double x)) (hdg : decode cc pc = .ok (.dload_n k, 1)) (kk : cr_P Γ E nL Φ kc ks S (pc + 1) lv (.double x :: rest) res) : cr_P Γ E nL Φ kc ks S pc lv (rest) res := by
  obtain ⟨p, l, e, R, s, m, args, below, meth, c⟩ := Γ
  obtain ⟨hx, hb, -⟩ := X
  intro Q a h1 h2 H locs ls hW hS hls
  exact lv_dload_n hx hb hdg rfl (lv_at hls q hl) (kk Q a h1 h2 H locs ls hW hS hls)
theorem cr_dload (X : cr_X Γ E cc nL own Ts rm rt) {i : Nat} {x : UInt64} (q : Nat) (hl : lv[q]? = some (i, .double x)) (hdg : decode cc pc = .ok (.dload i, 2)) (kk : cr_P Γ E nL Φ kc ks S (pc + 2) lv (.double x :: rest) res) : cr_P Γ E nL Φ kc ks S pc lv (rest) res := by
  obtain ⟨p, l, e, R, s, m, args, below, meth, c⟩ := Γ
  obtain ⟨hx, hb, -⟩ := X
  intro Q a h1 h2 H locs ls hW hS hls
  exact lv_dload hx hb hdg (lv_at hls q hl) (kk Q a h1 h2 H locs ls hW hS hls)

theorem cr_dstore_n (X : cr_X Γ E cc nL own Ts rm rt) {k : Fin 4} {x : UInt64} (lv' : List (Nat × Value)) (hl : ((k : Nat), Value.double x) :: lv.filter (fun q => !(q.1 == (k : Nat)) && (!(q.1 == (k : Nat) + 1) && !(q.1 + 1 == (k : Nat) && q.2.category == 2))) = lv') (hn : (k : Nat) + 1 < nL) (hdg : decode cc pc = .ok (.dstore_n k, 1)) (kk : cr_P Γ E nL Φ kc ks S (pc + 1) lv' (rest) res) : cr_P Γ E nL Φ kc ks S pc lv (.double x :: rest) res := by
  obtain ⟨p, l, e, R, s, m, args, below, meth, c⟩ := Γ
  obtain ⟨hx, hb, -⟩ := X
  intro Q a h1 h2 H locs ls hW hS hls
  exact lv_dstore_n hx hb hdg rfl hls hn hl (fun ls' h' => kk Q a h1 h2 H locs ls' hW hS h')

theorem cr_dstore_nb (X : cr_X Γ E cc nL own Ts rm rt) {k : Fin 4} {x : UInt64} {kf : UInt64 → Option α} (lv' : UInt64 → List (Nat × Value)) (hl : ∀ x, ((k : Nat), Value.double x) :: lv.filter (fun q => !(q.1 == (k : Nat)) && (!(q.1 == (k : Nat) + 1) && !(q.1 + 1 == (k : Nat) && q.2.category == 2))) = lv' x) (hn : (k : Nat) + 1 < nL) (hdg : decode cc pc = .ok (.dstore_n k, 1)) (kk : ∀ x, cr_P Γ E nL Φ kc ks S (pc + 1) (lv' x) (rest) (kf x)) : cr_P Γ E nL Φ kc ks S pc lv (.double x :: rest) (cr_bd x kf) :=
  cr_dstore_n X (lv' x) (hl x) hn hdg (kk x)

theorem cr_dstore (X : cr_X Γ E cc nL own Ts rm rt) {i : Nat} {x : UInt64} (lv' : List (Nat × Value)) (hl : (i, Value.double x) :: lv.filter (fun q => !(q.1 == i) && (!(q.1 == i + 1) && !(q.1 + 1 == i && q.2.category == 2))) = lv') (hn : i + 1 < nL) (hdg : decode cc pc = .ok (.dstore i, 2)) (kk : cr_P Γ E nL Φ kc ks S (pc + 2) lv' (rest) res) : cr_P Γ E nL Φ kc ks S pc lv (.double x :: rest) res := by
  obtain ⟨p, l, e, R, s, m, args, below, meth, c⟩ := Γ
  obtain ⟨hx, hb, -⟩ := X
  intro Q a h1 h2 H locs ls hW hS hls
  exact lv_dstore hx hb hdg hls hn hl (fun ls' h' => kk Q a h1 h2 H locs ls' hW hS h')

theorem cr_dstoreb (X : cr_X Γ E cc nL own Ts rm rt) {i : Nat} {x : UInt64} {kf : UInt64 → Option α} (lv' : UInt64 → List (Nat × Value)) (hl : ∀ x, (i, Value.double x) :: lv.filter (fun q => !(q.1 == i) && (!(q.1 == i + 1) && !(q.1 + 1 == i && q.2.category == 2))) = lv' x) (hn : i + 1 < nL) (hdg : decode cc pc = .ok (.dstore i, 2)) (kk : ∀ x, cr_P Γ E nL Φ kc ks S (pc + 2) (lv' x) (rest) (kf x)) : cr_P Γ E nL Φ kc ks S pc lv (.double x :: rest) (cr_bd x kf) :=
  cr_dstore X (lv' x) (hl x) hn hdg (kk x)

theorem cr_aload_n (X : cr_X Γ E cc nL own Ts rm rt) {k : Fin 4} {x : Nat} (q : Nat) (hl : lv[q]? = some ((k : Nat), .ref x)) (hdg : decode cc pc = .ok (.aload_n k, 1)) (kk : cr_P Γ E nL Φ kc ks S (pc + 1) lv (.ref x :: rest) res) : cr_P Γ E nL Φ kc ks S pc lv (rest) res := by
  obtain ⟨p, l, e, R, s, m, args, below, meth, c⟩ := Γ
  obtain ⟨hx, hb, -⟩ := X
  intro Q a h1 h2 H locs ls hW hS hls
  exact lv_aload_n hx hb hdg rfl (lv_at hls q hl) (kk Q a h1 h2 H locs ls hW hS hls)
theorem cr_aload (X : cr_X Γ E cc nL own Ts rm rt) {i : Nat} {x : Nat} (q : Nat) (hl : lv[q]? = some (i, .ref x)) (hdg : decode cc pc = .ok (.aload i, 2)) (kk : cr_P Γ E nL Φ kc ks S (pc + 2) lv (.ref x :: rest) res) : cr_P Γ E nL Φ kc ks S pc lv (rest) res := by
  obtain ⟨p, l, e, R, s, m, args, below, meth, c⟩ := Γ
  obtain ⟨hx, hb, -⟩ := X
  intro Q a h1 h2 H locs ls hW hS hls
  exact lv_aload hx hb hdg (lv_at hls q hl) (kk Q a h1 h2 H locs ls hW hS hls)

theorem cr_astore_n (X : cr_X Γ E cc nL own Ts rm rt) {k : Fin 4} {x : Nat} (lv' : List (Nat × Value)) (hl : ((k : Nat), Value.ref x) :: lv.filter (fun q => !(q.1 == (k : Nat)) && !(q.1 + 1 == (k : Nat) && q.2.category == 2)) = lv') (hn : (k : Nat) < nL) (hdg : decode cc pc = .ok (.astore_n k, 1)) (kk : cr_P Γ E nL Φ kc ks S (pc + 1) lv' (rest) res) : cr_P Γ E nL Φ kc ks S pc lv (.ref x :: rest) res := by
  obtain ⟨p, l, e, R, s, m, args, below, meth, c⟩ := Γ
  obtain ⟨hx, hb, -⟩ := X
  intro Q a h1 h2 H locs ls hW hS hls
  exact lv_astore_n hx hb hdg rfl hls hn hl (fun ls' h' => kk Q a h1 h2 H locs ls' hW hS h')

theorem cr_astore (X : cr_X Γ E cc nL own Ts rm rt) {i : Nat} {x : Nat} (lv' : List (Nat × Value)) (hl : (i, Value.ref x) :: lv.filter (fun q => !(q.1 == i) && !(q.1 + 1 == i && q.2.category == 2)) = lv') (hn : i < nL) (hdg : decode cc pc = .ok (.astore i, 2)) (kk : cr_P Γ E nL Φ kc ks S (pc + 2) lv' (rest) res) : cr_P Γ E nL Φ kc ks S pc lv (.ref x :: rest) res := by
  obtain ⟨p, l, e, R, s, m, args, below, meth, c⟩ := Γ
  obtain ⟨hx, hb, -⟩ := X
  intro Q a h1 h2 H locs ls hW hS hls
  exact lv_astore hx hb hdg hls hn hl (fun ls' h' => kk Q a h1 h2 H locs ls' hW hS h')

theorem cr_iinc (X : cr_X Γ E cc nL own Ts rm rt) {i : Nat} {n : Int} {x : Int32} (v : Int32) {kf : Int32 → Option α} (lv' : Int32 → List (Nat × Value)) (q : Nat) (hk : lv[q]? = some (i, .int x)) (hv : x + Int32.ofInt n = v) (hl : ∀ v, (i, Value.int v) :: lv.filter (fun q => !(q.1 == i) && !(q.1 + 1 == i && q.2.category == 2)) = lv' v) (hn : i < nL) (hdg : decode cc pc = .ok (.iinc i n, 3)) (kk : ∀ v, cr_P Γ E nL Φ kc ks S (pc + 3) (lv' v) (rest) (kf v)) : cr_P Γ E nL Φ kc ks S pc lv (rest) (cr_bd v kf) := by
  obtain ⟨p, l, e, R, s, m, args, below, meth, c⟩ := Γ
  obtain ⟨hx, hb, -⟩ := X
  intro Q a h1 h2 H locs ls hW hS hls
  exact lv_iinc hx hb hdg hls hk hv hn (hl v) (fun ls' h' => kk v Q a h1 h2 H locs ls' hW hS h')
theorem cr_sub {lv' : List (Nat × Value)} (qs : List Nat) (h : lv_pick lv qs = lv') (kk : cr_P Γ E nL Φ kc ks S pc lv' (rest) res) : cr_P Γ E nL Φ kc ks S pc lv (rest) res :=
  fun Q a h1 h2 H locs ls hW hS hls => kk Q a h1 h2 H locs ls hW hS (lv_sub hls qs h)
theorem cr_none {st : List Value} : cr_P Γ E nL Φ kc ks S pc lv (st) none := fun _ _ h1 => nomatch h1
theorem cr_ite {c : Prop} [Decidable c] {r1 r2 : Option α} {st : List Value} (k1 : c → cr_P Γ E nL Φ kc ks S pc lv (st) r1) (k2 : ¬ c → cr_P Γ E nL Φ kc ks S pc lv (st) r2) : cr_P Γ E nL Φ kc ks S pc lv (st) (if c then r1 else r2) := by
  by_cases h : c
  · rw [if_pos h]; exact k1 h
  · rw [if_neg h]; exact k2 h
theorem cr_gdi {b : Bool} {st : List Value} (k : b = true → cr_P Γ E nL Φ kc ks S pc lv (st) res) : cr_P Γ E nL Φ kc ks S pc lv (st) (cr_gd b res) := by
  cases b with
  | true => exact k rfl
  | false => exact fun _ _ h1 => nomatch h1
theorem cr_bdi {β : Type} {v : β} {kf : β → Option α} {st : β → List Value} (k : ∀ v, cr_P Γ E nL Φ kc ks S pc lv (st v) (kf v)) : cr_P Γ E nL Φ kc ks S pc lv (st v) (cr_bd v kf) := k v

theorem cr_iadd (X : cr_X Γ E cc nL own Ts rm rt) {x y : Int32} (hdg : decode cc pc = .ok (.iadd, 1)) (kk : cr_P Γ E nL Φ kc ks S (pc + 1) lv (.int (x + y) :: rest) res) : cr_P Γ E nL Φ kc ks S pc lv (.int y :: .int x :: rest) res := by
  obtain ⟨p, l, e, R, s, m, args, below, meth, c⟩ := Γ
  obtain ⟨hx, hb, -⟩ := X
  intro Q a h1 h2 H locs ls hW hS hls
  exact lv_iadd hx hb hdg (kk Q a h1 h2 H locs ls hW hS hls)

theorem cr_isub (X : cr_X Γ E cc nL own Ts rm rt) {x y : Int32} (hdg : decode cc pc = .ok (.isub, 1)) (kk : cr_P Γ E nL Φ kc ks S (pc + 1) lv (.int (x - y) :: rest) res) : cr_P Γ E nL Φ kc ks S pc lv (.int y :: .int x :: rest) res := by
  obtain ⟨p, l, e, R, s, m, args, below, meth, c⟩ := Γ
  obtain ⟨hx, hb, -⟩ := X
  intro Q a h1 h2 H locs ls hW hS hls
  exact lv_isub hx hb hdg (kk Q a h1 h2 H locs ls hW hS hls)

theorem cr_imul (X : cr_X Γ E cc nL own Ts rm rt) {x y : Int32} (hdg : decode cc pc = .ok (.imul, 1)) (kk : cr_P Γ E nL Φ kc ks S (pc + 1) lv (.int (x * y) :: rest) res) : cr_P Γ E nL Φ kc ks S pc lv (.int y :: .int x :: rest) res := by
  obtain ⟨p, l, e, R, s, m, args, below, meth, c⟩ := Γ
  obtain ⟨hx, hb, -⟩ := X
  intro Q a h1 h2 H locs ls hW hS hls
  exact lv_imul hx hb hdg (kk Q a h1 h2 H locs ls hW hS hls)

theorem cr_iand (X : cr_X Γ E cc nL own Ts rm rt) {x y : Int32} (hdg : decode cc pc = .ok (.iand, 1)) (kk : cr_P Γ E nL Φ kc ks S (pc + 1) lv (.int (x &&& y) :: rest) res) : cr_P Γ E nL Φ kc ks S pc lv (.int y :: .int x :: rest) res := by
  obtain ⟨p, l, e, R, s, m, args, below, meth, c⟩ := Γ
  obtain ⟨hx, hb, -⟩ := X
  intro Q a h1 h2 H locs ls hW hS hls
  exact lv_iand hx hb hdg (kk Q a h1 h2 H locs ls hW hS hls)

theorem cr_ior (X : cr_X Γ E cc nL own Ts rm rt) {x y : Int32} (hdg : decode cc pc = .ok (.ior, 1)) (kk : cr_P Γ E nL Φ kc ks S (pc + 1) lv (.int (x ||| y) :: rest) res) : cr_P Γ E nL Φ kc ks S pc lv (.int y :: .int x :: rest) res := by
  obtain ⟨p, l, e, R, s, m, args, below, meth, c⟩ := Γ
  obtain ⟨hx, hb, -⟩ := X
  intro Q a h1 h2 H locs ls hW hS hls
  exact lv_ior hx hb hdg (kk Q a h1 h2 H locs ls hW hS hls)

theorem cr_ishl (X : cr_X Γ E cc nL own Ts rm rt) {x y : Int32} (hdg : decode cc pc = .ok (.ishl, 1)) (kk : cr_P Γ E nL Φ kc ks S (pc + 1) lv (.int (x <<< (y &&& 31)) :: rest) res) : cr_P Γ E nL Φ kc ks S pc lv (.int y :: .int x :: rest) res := by
  obtain ⟨p, l, e, R, s, m, args, below, meth, c⟩ := Γ
  obtain ⟨hx, hb, -⟩ := X
  intro Q a h1 h2 H locs ls hW hS hls
  exact lv_ishl hx hb hdg (kk Q a h1 h2 H locs ls hW hS hls)

theorem cr_ladd (X : cr_X Γ E cc nL own Ts rm rt) {x y : Int64} (hdg : decode cc pc = .ok (.ladd, 1)) (kk : cr_P Γ E nL Φ kc ks S (pc + 1) lv (.long (x + y) :: rest) res) : cr_P Γ E nL Φ kc ks S pc lv (.long y :: .long x :: rest) res := by
  obtain ⟨p, l, e, R, s, m, args, below, meth, c⟩ := Γ
  obtain ⟨hx, hb, -⟩ := X
  intro Q a h1 h2 H locs ls hW hS hls
  exact lv_ladd hx hb hdg (kk Q a h1 h2 H locs ls hW hS hls)

theorem cr_lsub (X : cr_X Γ E cc nL own Ts rm rt) {x y : Int64} (hdg : decode cc pc = .ok (.lsub, 1)) (kk : cr_P Γ E nL Φ kc ks S (pc + 1) lv (.long (x - y) :: rest) res) : cr_P Γ E nL Φ kc ks S pc lv (.long y :: .long x :: rest) res := by
  obtain ⟨p, l, e, R, s, m, args, below, meth, c⟩ := Γ
  obtain ⟨hx, hb, -⟩ := X
  intro Q a h1 h2 H locs ls hW hS hls
  exact lv_lsub hx hb hdg (kk Q a h1 h2 H locs ls hW hS hls)

theorem cr_lmul (X : cr_X Γ E cc nL own Ts rm rt) {x y : Int64} (hdg : decode cc pc = .ok (.lmul, 1)) (kk : cr_P Γ E nL Φ kc ks S (pc + 1) lv (.long (x * y) :: rest) res) : cr_P Γ E nL Φ kc ks S pc lv (.long y :: .long x :: rest) res := by
  obtain ⟨p, l, e, R, s, m, args, below, meth, c⟩ := Γ
  obtain ⟨hx, hb, -⟩ := X
  intro Q a h1 h2 H locs ls hW hS hls
  exact lv_lmul hx hb hdg (kk Q a h1 h2 H locs ls hW hS hls)

theorem cr_lor (X : cr_X Γ E cc nL own Ts rm rt) {x y : Int64} (hdg : decode cc pc = .ok (.lor, 1)) (kk : cr_P Γ E nL Φ kc ks S (pc + 1) lv (.long (x ||| y) :: rest) res) : cr_P Γ E nL Φ kc ks S pc lv (.long y :: .long x :: rest) res := by
  obtain ⟨p, l, e, R, s, m, args, below, meth, c⟩ := Γ
  obtain ⟨hx, hb, -⟩ := X
  intro Q a h1 h2 H locs ls hW hS hls
  exact lv_lor hx hb hdg (kk Q a h1 h2 H locs ls hW hS hls)

theorem cr_lshl (X : cr_X Γ E cc nL own Ts rm rt) {x : Int64} {y : Int32} (hdg : decode cc pc = .ok (.lshl, 1)) (kk : cr_P Γ E nL Φ kc ks S (pc + 1) lv (.long (x <<< (y.toInt64 &&& 63)) :: rest) res) : cr_P Γ E nL Φ kc ks S pc lv (.int y :: .long x :: rest) res := by
  obtain ⟨p, l, e, R, s, m, args, below, meth, c⟩ := Γ
  obtain ⟨hx, hb, -⟩ := X
  intro Q a h1 h2 H locs ls hW hS hls
  exact lv_lshl hx hb hdg rfl (kk Q a h1 h2 H locs ls hW hS hls)

theorem cr_idiv (X : cr_X Γ E cc nL own Ts rm rt) {x y : Int32} (hdg : decode cc pc = .ok (.idiv, 1)) (kk : cr_P Γ E nL Φ kc ks S (pc + 1) lv (.int (x / y) :: rest) res) : cr_P Γ E nL Φ kc ks S pc lv (.int y :: .int x :: rest) (cr_gd (cr_nz y) res) := by
  refine cr_gdi (fun h => ?_)
  obtain ⟨p, l, e, R, s, m, args, below, meth, c⟩ := Γ
  obtain ⟨hx, hb, -⟩ := X
  intro Q a h1 h2 H locs ls hW hS hls
  exact lv_idiv hx hb hdg (of_decide_eq_true h) (kk Q a h1 h2 H locs ls hW hS hls)
theorem cr_idivk (X : cr_X Γ E cc nL own Ts rm rt) {x y : Int32} (hy : ¬ y = 0) (hdg : decode cc pc = .ok (.idiv, 1)) (kk : cr_P Γ E nL Φ kc ks S (pc + 1) lv (.int (x / y) :: rest) res) : cr_P Γ E nL Φ kc ks S pc lv (.int y :: .int x :: rest) res := by
  obtain ⟨p, l, e, R, s, m, args, below, meth, c⟩ := Γ
  obtain ⟨hx, hb, -⟩ := X
  intro Q a h1 h2 H locs ls hW hS hls
  exact lv_idiv hx hb hdg hy (kk Q a h1 h2 H locs ls hW hS hls)

theorem cr_irem (X : cr_X Γ E cc nL own Ts rm rt) {x y : Int32} (hdg : decode cc pc = .ok (.irem, 1)) (kk : cr_P Γ E nL Φ kc ks S (pc + 1) lv (.int (x - x / y * y) :: rest) res) : cr_P Γ E nL Φ kc ks S pc lv (.int y :: .int x :: rest) (cr_gd (cr_nz y) res) := by
  refine cr_gdi (fun h => ?_)
  obtain ⟨p, l, e, R, s, m, args, below, meth, c⟩ := Γ
  obtain ⟨hx, hb, -⟩ := X
  intro Q a h1 h2 H locs ls hW hS hls
  exact lv_irem hx hb hdg (of_decide_eq_true h) (kk Q a h1 h2 H locs ls hW hS hls)
theorem cr_iremk (X : cr_X Γ E cc nL own Ts rm rt) {x y : Int32} (hy : ¬ y = 0) (hdg : decode cc pc = .ok (.irem, 1)) (kk : cr_P Γ E nL Φ kc ks S (pc + 1) lv (.int (x - x / y * y) :: rest) res) : cr_P Γ E nL Φ kc ks S pc lv (.int y :: .int x :: rest) res := by
  obtain ⟨p, l, e, R, s, m, args, below, meth, c⟩ := Γ
  obtain ⟨hx, hb, -⟩ := X
  intro Q a h1 h2 H locs ls hW hS hls
  exact lv_irem hx hb hdg hy (kk Q a h1 h2 H locs ls hW hS hls)

theorem cr_i2l (X : cr_X Γ E cc nL own Ts rm rt) {x : Int32} (hdg : decode cc pc = .ok (.i2l, 1)) (kk : cr_P Γ E nL Φ kc ks S (pc + 1) lv (.long x.toInt64 :: rest) res) : cr_P Γ E nL Φ kc ks S pc lv (.int x :: rest) res := by
  obtain ⟨p, l, e, R, s, m, args, below, meth, c⟩ := Γ
  obtain ⟨hx, hb, -⟩ := X
  intro Q a h1 h2 H locs ls hW hS hls
  exact lv_i2l hx hb hdg rfl (kk Q a h1 h2 H locs ls hW hS hls)

theorem cr_i2f (X : cr_X Γ E cc nL own Ts rm rt) {x : Int32} (hdg : decode cc pc = .ok (.i2f, 1)) (kk : cr_P Γ E nL Φ kc ks S (pc + 1) lv (.float (FP.i2f x) :: rest) res) : cr_P Γ E nL Φ kc ks S pc lv (.int x :: rest) res := by
  obtain ⟨p, l, e, R, s, m, args, below, meth, c⟩ := Γ
  obtain ⟨hx, hb, -⟩ := X
  intro Q a h1 h2 H locs ls hW hS hls
  exact lv_i2f hx hb hdg (kk Q a h1 h2 H locs ls hW hS hls)

theorem cr_i2d (X : cr_X Γ E cc nL own Ts rm rt) {x : Int32} (hdg : decode cc pc = .ok (.i2d, 1)) (kk : cr_P Γ E nL Φ kc ks S (pc + 1) lv (.double (FP.i2d x) :: rest) res) : cr_P Γ E nL Φ kc ks S pc lv (.int x :: rest) res := by
  obtain ⟨p, l, e, R, s, m, args, below, meth, c⟩ := Γ
  obtain ⟨hx, hb, -⟩ := X
  intro Q a h1 h2 H locs ls hW hS hls
  exact lv_i2d hx hb hdg (kk Q a h1 h2 H locs ls hW hS hls)

theorem cr_f2i (X : cr_X Γ E cc nL own Ts rm rt) {x : UInt32} (hdg : decode cc pc = .ok (.f2i, 1)) (kk : cr_P Γ E nL Φ kc ks S (pc + 1) lv (.int (FP.f2i x) :: rest) res) : cr_P Γ E nL Φ kc ks S pc lv (.float x :: rest) res := by
  obtain ⟨p, l, e, R, s, m, args, below, meth, c⟩ := Γ
  obtain ⟨hx, hb, -⟩ := X
  intro Q a h1 h2 H locs ls hW hS hls
  exact lv_f2i hx hb hdg (kk Q a h1 h2 H locs ls hW hS hls)

theorem cr_d2l (X : cr_X Γ E cc nL own Ts rm rt) {x : UInt64} (hdg : decode cc pc = .ok (.d2l, 1)) (kk : cr_P Γ E nL Φ kc ks S (pc + 1) lv (.long (FP.d2l x) :: rest) res) : cr_P Γ E nL Φ kc ks S pc lv (.double x :: rest) res := by
  obtain ⟨p, l, e, R, s, m, args, below, meth, c⟩ := Γ
  obtain ⟨hx, hb, -⟩ := X
  intro Q a h1 h2 H locs ls hW hS hls
  exact lv_d2l hx hb hdg (kk Q a h1 h2 H locs ls hW hS hls)

theorem cr_lcmp (X : cr_X Γ E cc nL own Ts rm rt) {x y : Int64} (hdg : decode cc pc = .ok (.lcmp, 1)) (kk : cr_P Γ E nL Φ kc ks S (pc + 1) lv (.int (lg_cmp x y) :: rest) res) : cr_P Γ E nL Φ kc ks S pc lv (.long y :: .long x :: rest) res := by
  obtain ⟨p, l, e, R, s, m, args, below, meth, c⟩ := Γ
  obtain ⟨hx, hb, -⟩ := X
  intro Q a h1 h2 H locs ls hW hS hls
  exact W.lcmp hx hb hdg (kk Q a h1 h2 H locs ls hW hS hls)

theorem cr_fcmp (X : cr_X Γ E cc nL own Ts rm rt) {x y : UInt32} {op : CmpOp} (hdg : decode cc pc = .ok (.fcmp op, 1)) (kk : cr_P Γ E nL Φ kc ks S (pc + 1) lv (.int (Op.cmpValue (FP.fcmp x y) op) :: rest) res) : cr_P Γ E nL Φ kc ks S pc lv (.float y :: .float x :: rest) res := by
  obtain ⟨p, l, e, R, s, m, args, below, meth, c⟩ := Γ
  obtain ⟨hx, hb, -⟩ := X
  intro Q a h1 h2 H locs ls hW hS hls
  exact lv_fcmp hx hb hdg (kk Q a h1 h2 H locs ls hW hS hls)

theorem cr_dcmp (X : cr_X Γ E cc nL own Ts rm rt) {x y : UInt64} {op : CmpOp} (hdg : decode cc pc = .ok (.dcmp op, 1)) (kk : cr_P Γ E nL Φ kc ks S (pc + 1) lv (.int (Op.cmpValue (FP.dcmp x y) op) :: rest) res) : cr_P Γ E nL Φ kc ks S pc lv (.double y :: .double x :: rest) res := by
  obtain ⟨p, l, e, R, s, m, args, below, meth, c⟩ := Γ
  obtain ⟨hx, hb, -⟩ := X
  intro Q a h1 h2 H locs ls hW hS hls
  exact lv_dcmp hx hb hdg (kk Q a h1 h2 H locs ls hW hS hls)

def cr_nfdiv (x y : UInt32) : Bool := decide (FP.fdiv x y &&& 0x7fffffff ≤ 0x7f800000)
theorem cr_fdiv (X : cr_X Γ E cc nL own Ts rm rt) {x y : UInt32} (hdg : decode cc pc = .ok (.fdiv, 1)) (kk : cr_P Γ E nL Φ kc ks S (pc + 1) lv (.float (FP.fdiv x y) :: rest) res) : cr_P Γ E nL Φ kc ks S pc lv (.float y :: .float x :: rest) (cr_gd (cr_nfdiv x y) res) := by
  refine cr_gdi (fun h => ?_)
  obtain ⟨p, l, e, R, s, m, args, below, meth, c⟩ := Γ
  obtain ⟨hx, hb, -⟩ := X
  intro Q a h1 h2 H locs ls hW hS hls
  have hd : FP.fdiv x y &&& 0x7fffffff ≤ 0x7f800000 := of_decide_eq_true h
  exact lv_fdiv hx hb hdg hd (kk Q a h1 h2 H locs ls hW hS hls)

def cr_nfmul (x y : UInt32) : Bool := decide (FP.fmul x y &&& 0x7fffffff ≤ 0x7f800000)
theorem cr_fmul (X : cr_X Γ E cc nL own Ts rm rt) {x y : UInt32} (hdg : decode cc pc = .ok (.fmul, 1)) (kk : cr_P Γ E nL Φ kc ks S (pc + 1) lv (.float (FP.fmul x y) :: rest) res) : cr_P Γ E nL Φ kc ks S pc lv (.float y :: .float x :: rest) (cr_gd (cr_nfmul x y) res) := by
  refine cr_gdi (fun h => ?_)
  obtain ⟨p, l, e, R, s, m, args, below, meth, c⟩ := Γ
  obtain ⟨hx, hb, -⟩ := X
  intro Q a h1 h2 H locs ls hW hS hls
  have hd : FP.fmul x y &&& 0x7fffffff ≤ 0x7f800000 := of_decide_eq_true h
  exact lv_fmul hx hb hdg hd (kk Q a h1 h2 H locs ls hW hS hls)

def cr_nfsub (x y : UInt32) : Bool := decide (FP.fsub x y &&& 0x7fffffff ≤ 0x7f800000)
theorem cr_fsub (X : cr_X Γ E cc nL own Ts rm rt) {x y : UInt32} (hdg : decode cc pc = .ok (.fsub, 1)) (kk : cr_P Γ E nL Φ kc ks S (pc + 1) lv (.float (FP.fsub x y) :: rest) res) : cr_P Γ E nL Φ kc ks S pc lv (.float y :: .float x :: rest) (cr_gd (cr_nfsub x y) res) := by
  refine cr_gdi (fun h => ?_)
  obtain ⟨p, l, e, R, s, m, args, below, meth, c⟩ := Γ
  obtain ⟨hx, hb, -⟩ := X
  intro Q a h1 h2 H locs ls hW hS hls
  have hd : FP.fsub x y &&& 0x7fffffff ≤ 0x7f800000 := of_decide_eq_true h
  exact lv_fsub hx hb hdg hd (kk Q a h1 h2 H locs ls hW hS hls)

def cr_nddiv (x y : UInt64) : Bool := decide (FP.ddiv x y &&& 0x7fffffffffffffff ≤ 0x7ff0000000000000)
theorem cr_ddiv (X : cr_X Γ E cc nL own Ts rm rt) {x y : UInt64} (hdg : decode cc pc = .ok (.ddiv, 1)) (kk : cr_P Γ E nL Φ kc ks S (pc + 1) lv (.double (FP.ddiv x y) :: rest) res) : cr_P Γ E nL Φ kc ks S pc lv (.double y :: .double x :: rest) (cr_gd (cr_nddiv x y) res) := by
  refine cr_gdi (fun h => ?_)
  obtain ⟨p, l, e, R, s, m, args, below, meth, c⟩ := Γ
  obtain ⟨hx, hb, -⟩ := X
  intro Q a h1 h2 H locs ls hW hS hls
  have hd : FP.ddiv x y &&& 0x7fffffffffffffff ≤ 0x7ff0000000000000 := of_decide_eq_true h
  exact lv_ddiv hx hb hdg hd (kk Q a h1 h2 H locs ls hW hS hls)

def cr_ndmul (x y : UInt64) : Bool := decide (FP.dmul x y &&& 0x7fffffffffffffff ≤ 0x7ff0000000000000)
theorem cr_dmul (X : cr_X Γ E cc nL own Ts rm rt) {x y : UInt64} (hdg : decode cc pc = .ok (.dmul, 1)) (kk : cr_P Γ E nL Φ kc ks S (pc + 1) lv (.double (FP.dmul x y) :: rest) res) : cr_P Γ E nL Φ kc ks S pc lv (.double y :: .double x :: rest) (cr_gd (cr_ndmul x y) res) := by
  refine cr_gdi (fun h => ?_)
  obtain ⟨p, l, e, R, s, m, args, below, meth, c⟩ := Γ
  obtain ⟨hx, hb, -⟩ := X
  intro Q a h1 h2 H locs ls hW hS hls
  have hd : FP.dmul x y &&& 0x7fffffffffffffff ≤ 0x7ff0000000000000 := of_decide_eq_true h
  exact lv_dmul hx hb hdg hd (kk Q a h1 h2 H locs ls hW hS hls)

def cr_ndsub (x y : UInt64) : Bool := decide (FP.dsub x y &&& 0x7fffffffffffffff ≤ 0x7ff0000000000000)
theorem cr_dsub (X : cr_X Γ E cc nL own Ts rm rt) {x y : UInt64} (hdg : decode cc pc = .ok (.dsub, 1)) (kk : cr_P Γ E nL Φ kc ks S (pc + 1) lv (.double (FP.dsub x y) :: rest) res) : cr_P Γ E nL Φ kc ks S pc lv (.double y :: .double x :: rest) (cr_gd (cr_ndsub x y) res) := by
  refine cr_gdi (fun h => ?_)
  obtain ⟨p, l, e, R, s, m, args, below, meth, c⟩ := Γ
  obtain ⟨hx, hb, -⟩ := X
  intro Q a h1 h2 H locs ls hW hS hls
  have hd : FP.dsub x y &&& 0x7fffffffffffffff ≤ 0x7ff0000000000000 := of_decide_eq_true h
  exact lv_dsub hx hb hdg hd (kk Q a h1 h2 H locs ls hW hS hls)

def cr_nf2d (x : UInt32) : Bool := decide (FP.f2d x &&& 0x7fffffffffffffff ≤ 0x7ff0000000000000)
theorem cr_f2d (X : cr_X Γ E cc nL own Ts rm rt) {x : UInt32} (hdg : decode cc pc = .ok (.f2d, 1)) (kk : cr_P Γ E nL Φ kc ks S (pc + 1) lv (.double (FP.f2d x) :: rest) res) : cr_P Γ E nL Φ kc ks S pc lv (.float x :: rest) (cr_gd (cr_nf2d x) res) := by
  refine cr_gdi (fun h => ?_)
  obtain ⟨p, l, e, R, s, m, args, below, meth, c⟩ := Γ
  obtain ⟨hx, hb, -⟩ := X
  intro Q a h1 h2 H locs ls hW hS hls
  have hd : FP.f2d x &&& 0x7fffffffffffffff ≤ 0x7ff0000000000000 := of_decide_eq_true h
  exact lv_f2d hx hb hdg hd (kk Q a h1 h2 H locs ls hW hS hls)

theorem cr_fconst0 (X : cr_X Γ E cc nL own Ts rm rt) (hdg : decode cc pc = .ok (.fconst 0, 1)) (kk : cr_P Γ E nL Φ kc ks S (pc + 1) lv (.float FP.fconst0 :: rest) res) : cr_P Γ E nL Φ kc ks S pc lv (rest) res := by
  obtain ⟨p, l, e, R, s, m, args, below, meth, c⟩ := Γ
  obtain ⟨hx, hb, -⟩ := X
  intro Q a h1 h2 H locs ls hW hS hls
  exact lv_fconst0 hx hb hdg (kk Q a h1 h2 H locs ls hW hS hls)

theorem cr_fconst1 (X : cr_X Γ E cc nL own Ts rm rt) (hdg : decode cc pc = .ok (.fconst 1, 1)) (kk : cr_P Γ E nL Φ kc ks S (pc + 1) lv (.float FP.fconst1 :: rest) res) : cr_P Γ E nL Φ kc ks S pc lv (rest) res := by
  obtain ⟨p, l, e, R, s, m, args, below, meth, c⟩ := Γ
  obtain ⟨hx, hb, -⟩ := X
  intro Q a h1 h2 H locs ls hW hS hls
  exact lv_fconst1 hx hb hdg (kk Q a h1 h2 H locs ls hW hS hls)

theorem cr_fconst2 (X : cr_X Γ E cc nL own Ts rm rt) (hdg : decode cc pc = .ok (.fconst 2, 1)) (kk : cr_P Γ E nL Φ kc ks S (pc + 1) lv (.float FP.fconst2 :: rest) res) : cr_P Γ E nL Φ kc ks S pc lv (rest) res := by
  obtain ⟨p, l, e, R, s, m, args, below, meth, c⟩ := Γ
  obtain ⟨hx, hb, -⟩ := X
  intro Q a h1 h2 H locs ls hW hS hls
  exact lv_fconst2 hx hb hdg (kk Q a h1 h2 H locs ls hW hS hls)

theorem cr_dconst0 (X : cr_X Γ E cc nL own Ts rm rt) (hdg : decode cc pc = .ok (.dconst 0, 1)) (kk : cr_P Γ E nL Φ kc ks S (pc + 1) lv (.double FP.dconst0 :: rest) res) : cr_P Γ E nL Φ kc ks S pc lv (rest) res := by
  obtain ⟨p, l, e, R, s, m, args, below, meth, c⟩ := Γ
  obtain ⟨hx, hb, -⟩ := X
  intro Q a h1 h2 H locs ls hW hS hls
  exact lv_dconst0 hx hb hdg (kk Q a h1 h2 H locs ls hW hS hls)

theorem cr_dconst1 (X : cr_X Γ E cc nL own Ts rm rt) (hdg : decode cc pc = .ok (.dconst 1, 1)) (kk : cr_P Γ E nL Φ kc ks S (pc + 1) lv (.double FP.dconst1 :: rest) res) : cr_P Γ E nL Φ kc ks S pc lv (rest) res := by
  obtain ⟨p, l, e, R, s, m, args, below, meth, c⟩ := Γ
  obtain ⟨hx, hb, -⟩ := X
  intro Q a h1 h2 H locs ls hW hS hls
  exact lv_dconst1 hx hb hdg (kk Q a h1 h2 H locs ls hW hS hls)

theorem cr_dup (X : cr_X Γ E cc nL own Ts rm rt) {va : Value} (hva : va.category = 1) (hdg : decode cc pc = .ok (.dup, 1)) (kk : cr_P Γ E nL Φ kc ks S (pc + 1) lv (va :: va :: rest) res) : cr_P Γ E nL Φ kc ks S pc lv (va :: rest) res := by
  obtain ⟨p, l, e, R, s, m, args, below, meth, c⟩ := Γ
  obtain ⟨hx, hb, -⟩ := X
  intro Q a h1 h2 H locs ls hW hS hls
  exact lv_dup hx hb hdg hva (kk Q a h1 h2 H locs ls hW hS hls)

theorem cr_pop (X : cr_X Γ E cc nL own Ts rm rt) {va : Value} (hva : va.category = 1) (hdg : decode cc pc = .ok (.pop, 1)) (kk : cr_P Γ E nL Φ kc ks S (pc + 1) lv (rest) res) : cr_P Γ E nL Φ kc ks S pc lv (va :: rest) res := by
  obtain ⟨p, l, e, R, s, m, args, below, meth, c⟩ := Γ
  obtain ⟨hx, hb, -⟩ := X
  intro Q a h1 h2 H locs ls hW hS hls
  exact lv_pop hx hb hdg hva (kk Q a h1 h2 H locs ls hW hS hls)

theorem cr_dup2 (X : cr_X Γ E cc nL own Ts rm rt) {va vb : Value} (hva : va.category = 1) (hvb : vb.category = 1) (hdg : decode cc pc = .ok (.dup2, 1)) (kk : cr_P Γ E nL Φ kc ks S (pc + 1) lv (va :: vb :: va :: vb :: rest) res) : cr_P Γ E nL Φ kc ks S pc lv (va :: vb :: rest) res := by
  obtain ⟨p, l, e, R, s, m, args, below, meth, c⟩ := Γ
  obtain ⟨hx, hb, -⟩ := X
  intro Q a h1 h2 H locs ls hW hS hls
  exact lv_dup2_11 hx hb hdg hva hvb (kk Q a h1 h2 H locs ls hW hS hls)

theorem cr_if_eq (X : cr_X Γ E cc nL own Ts rm rt) {x : Int32} {off : Int} (tgt : Nat) {r1 r2 : Option α} (hdg : decode cc pc = .ok (.ifCond .eq off, 3)) (ht : (pc : Int) + off = (tgt : Int)) (k1 : cr_P Γ E nL Φ kc ks S tgt lv (rest) r1) (k2 : cr_P Γ E nL Φ kc ks S (pc + 3) lv (rest) r2) : cr_P Γ E nL Φ kc ks S pc lv (.int x :: rest) (if x = 0 then r1 else r2) := by
  obtain ⟨p, l, e, R, s, m, args, below, meth, c⟩ := Γ
  obtain ⟨hx, hb, -⟩ := X
  intro Q a h1 h2 H locs ls hW hS hls
  by_cases hc : x = 0
  · rw [if_pos hc] at h1
    exact lv_if_eq hx hb hdg ht (fun _ => k1 Q a h1 h2 H locs ls hW hS hls) (fun h => absurd hc h)
  · rw [if_neg hc] at h1
    exact lv_if_eq hx hb hdg ht (fun h => absurd h hc) (fun _ => k2 Q a h1 h2 H locs ls hW hS hls)

theorem cr_ifb_eq (X : cr_X Γ E cc nL own Ts rm rt) {b : Bool} {off : Int} (tgt : Nat) {r1 r2 : Option α} (hdg : decode cc pc = .ok (.ifCond .eq off, 3)) (ht : (pc : Int) + off = (tgt : Int)) (k1 : cr_P Γ E nL Φ kc ks S tgt lv (rest) r1) (k2 : cr_P Γ E nL Φ kc ks S (pc + 3) lv (rest) r2) : cr_P Γ E nL Φ kc ks S pc lv (.int (cr_b b) :: rest) (if b = true then r2 else r1) := by
  obtain ⟨p, l, e, R, s, m, args, below, meth, c⟩ := Γ
  obtain ⟨hx, hb, -⟩ := X
  intro Q a h1 h2 H locs ls hW hS hls
  cases b with
  | true => exact lv_if_eq hx hb hdg ht (fun h => absurd h (by decide)) (fun h => k2 Q a h1 h2 H locs ls hW hS hls)
  | false => exact lv_if_eq hx hb hdg ht (fun h => k1 Q a h1 h2 H locs ls hW hS hls) (fun h => absurd rfl h)

theorem cr_icmp_eq (X : cr_X Γ E cc nL own Ts rm rt) {x y : Int32} {off : Int} (tgt : Nat) {r1 r2 : Option α} (hdg : decode cc pc = .ok (.if_icmp .eq off, 3)) (ht : (pc : Int) + off = (tgt : Int)) (k1 : cr_P Γ E nL Φ kc ks S tgt lv (rest) r1) (k2 : cr_P Γ E nL Φ kc ks S (pc + 3) lv (rest) r2) : cr_P Γ E nL Φ kc ks S pc lv (.int y :: .int x :: rest) (if x = y then r1 else r2) := by
  obtain ⟨p, l, e, R, s, m, args, below, meth, c⟩ := Γ
  obtain ⟨hx, hb, -⟩ := X
  intro Q a h1 h2 H locs ls hW hS hls
  by_cases hc : x = y
  · rw [if_pos hc] at h1
    exact lv_icmp_eq hx hb hdg ht (fun _ => k1 Q a h1 h2 H locs ls hW hS hls) (fun h => absurd hc h)
  · rw [if_neg hc] at h1
    exact lv_icmp_eq hx hb hdg ht (fun h => absurd h hc) (fun _ => k2 Q a h1 h2 H locs ls hW hS hls)

theorem cr_if_ne (X : cr_X Γ E cc nL own Ts rm rt) {x : Int32} {off : Int} (tgt : Nat) {r1 r2 : Option α} (hdg : decode cc pc = .ok (.ifCond .ne off, 3)) (ht : (pc : Int) + off = (tgt : Int)) (k1 : cr_P Γ E nL Φ kc ks S tgt lv (rest) r1) (k2 : cr_P Γ E nL Φ kc ks S (pc + 3) lv (rest) r2) : cr_P Γ E nL Φ kc ks S pc lv (.int x :: rest) (if x = 0 then r2 else r1) := by
  obtain ⟨p, l, e, R, s, m, args, below, meth, c⟩ := Γ
  obtain ⟨hx, hb, -⟩ := X
  intro Q a h1 h2 H locs ls hW hS hls
  by_cases hc : x = 0
  · rw [if_pos hc] at h1
    exact lv_if_ne hx hb hdg ht (fun h => absurd hc h) (fun _ => k2 Q a h1 h2 H locs ls hW hS hls)
  · rw [if_neg hc] at h1
    exact lv_if_ne hx hb hdg ht (fun _ => k1 Q a h1 h2 H locs ls hW hS hls) (fun h => absurd h hc)

theorem cr_ifb_ne (X : cr_X Γ E cc nL own Ts rm rt) {b : Bool} {off : Int} (tgt : Nat) {r1 r2 : Option α} (hdg : decode cc pc = .ok (.ifCond .ne off, 3)) (ht : (pc : Int) + off = (tgt : Int)) (k1 : cr_P Γ E nL Φ kc ks S tgt lv (rest) r1) (k2 : cr_P Γ E nL Φ kc ks S (pc + 3) lv (rest) r2) : cr_P Γ E nL Φ kc ks S pc lv (.int (cr_b b) :: rest) (if b = true then r1 else r2) := by
  obtain ⟨p, l, e, R, s, m, args, below, meth, c⟩ := Γ
  obtain ⟨hx, hb, -⟩ := X
  intro Q a h1 h2 H locs ls hW hS hls
  cases b with
  | true => exact lv_if_ne hx hb hdg ht (fun h => k1 Q a h1 h2 H locs ls hW hS hls) (fun h => absurd h (by decide))
  | false => exact lv_if_ne hx hb hdg ht (fun h => absurd rfl h) (fun h => k2 Q a h1 h2 H locs ls hW hS hls)

theorem cr_icmp_ne (X : cr_X Γ E cc nL own Ts rm rt) {x y : Int32} {off : Int} (tgt : Nat) {r1 r2 : Option α} (hdg : decode cc pc = .ok (.if_icmp .ne off, 3)) (ht : (pc : Int) + off = (tgt : Int)) (k1 : cr_P Γ E nL Φ kc ks S tgt lv (rest) r1) (k2 : cr_P Γ E nL Φ kc ks S (pc + 3) lv (rest) r2) : cr_P Γ E nL Φ kc ks S pc lv (.int y :: .int x :: rest) (if x = y then r2 else r1) := by
  obtain ⟨p, l, e, R, s, m, args, below, meth, c⟩ := Γ
  obtain ⟨hx, hb, -⟩ := X
  intro Q a h1 h2 H locs ls hW hS hls
  by_cases hc : x = y
  · rw [if_pos hc] at h1
    exact lv_icmp_ne hx hb hdg ht (fun h => absurd hc h) (fun _ => k2 Q a h1 h2 H locs ls hW hS hls)
  · rw [if_neg hc] at h1
    exact lv_icmp_ne hx hb hdg ht (fun _ => k1 Q a h1 h2 H locs ls hW hS hls) (fun h => absurd h hc)

theorem cr_if_lt (X : cr_X Γ E cc nL own Ts rm rt) {x : Int32} {off : Int} (tgt : Nat) {r1 r2 : Option α} (hdg : decode cc pc = .ok (.ifCond .lt off, 3)) (ht : (pc : Int) + off = (tgt : Int)) (k1 : cr_P Γ E nL Φ kc ks S tgt lv (rest) r1) (k2 : cr_P Γ E nL Φ kc ks S (pc + 3) lv (rest) r2) : cr_P Γ E nL Φ kc ks S pc lv (.int x :: rest) (if x < 0 then r1 else r2) := by
  obtain ⟨p, l, e, R, s, m, args, below, meth, c⟩ := Γ
  obtain ⟨hx, hb, -⟩ := X
  intro Q a h1 h2 H locs ls hW hS hls
  by_cases hc : x < 0
  · rw [if_pos hc] at h1
    exact lv_if_lt hx hb hdg ht (fun _ => k1 Q a h1 h2 H locs ls hW hS hls) (fun h => absurd hc h)
  · rw [if_neg hc] at h1
    exact lv_if_lt hx hb hdg ht (fun h => absurd h hc) (fun _ => k2 Q a h1 h2 H locs ls hW hS hls)

theorem cr_icmp_lt (X : cr_X Γ E cc nL own Ts rm rt) {x y : Int32} {off : Int} (tgt : Nat) {r1 r2 : Option α} (hdg : decode cc pc = .ok (.if_icmp .lt off, 3)) (ht : (pc : Int) + off = (tgt : Int)) (k1 : cr_P Γ E nL Φ kc ks S tgt lv (rest) r1) (k2 : cr_P Γ E nL Φ kc ks S (pc + 3) lv (rest) r2) : cr_P Γ E nL Φ kc ks S pc lv (.int y :: .int x :: rest) (if x < y then r1 else r2) := by
  obtain ⟨p, l, e, R, s, m, args, below, meth, c⟩ := Γ
  obtain ⟨hx, hb, -⟩ := X
  intro Q a h1 h2 H locs ls hW hS hls
  by_cases hc : x < y
  · rw [if_pos hc] at h1
    exact lv_icmp_lt hx hb hdg ht (fun _ => k1 Q a h1 h2 H locs ls hW hS hls) (fun h => absurd hc h)
  · rw [if_neg hc] at h1
    exact lv_icmp_lt hx hb hdg ht (fun h => absurd h hc) (fun _ => k2 Q a h1 h2 H locs ls hW hS hls)

theorem cr_if_ge (X : cr_X Γ E cc nL own Ts rm rt) {x : Int32} {off : Int} (tgt : Nat) {r1 r2 : Option α} (hdg : decode cc pc = .ok (.ifCond .ge off, 3)) (ht : (pc : Int) + off = (tgt : Int)) (k1 : cr_P Γ E nL Φ kc ks S tgt lv (rest) r1) (k2 : cr_P Γ E nL Φ kc ks S (pc + 3) lv (rest) r2) : cr_P Γ E nL Φ kc ks S pc lv (.int x :: rest) (if 0 ≤ x then r1 else r2) := by
  obtain ⟨p, l, e, R, s, m, args, below, meth, c⟩ := Γ
  obtain ⟨hx, hb, -⟩ := X
  intro Q a h1 h2 H locs ls hW hS hls
  by_cases hc : 0 ≤ x
  · rw [if_pos hc] at h1
    exact lv_if_ge hx hb hdg ht (fun _ => k1 Q a h1 h2 H locs ls hW hS hls) (fun h => absurd hc h)
  · rw [if_neg hc] at h1
    exact lv_if_ge hx hb hdg ht (fun h => absurd h hc) (fun _ => k2 Q a h1 h2 H locs ls hW hS hls)

theorem cr_icmp_ge (X : cr_X Γ E cc nL own Ts rm rt) {x y : Int32} {off : Int} (tgt : Nat) {r1 r2 : Option α} (hdg : decode cc pc = .ok (.if_icmp .ge off, 3)) (ht : (pc : Int) + off = (tgt : Int)) (k1 : cr_P Γ E nL Φ kc ks S tgt lv (rest) r1) (k2 : cr_P Γ E nL Φ kc ks S (pc + 3) lv (rest) r2) : cr_P Γ E nL Φ kc ks S pc lv (.int y :: .int x :: rest) (if y ≤ x then r1 else r2) := by
  obtain ⟨p, l, e, R, s, m, args, below, meth, c⟩ := Γ
  obtain ⟨hx, hb, -⟩ := X
  intro Q a h1 h2 H locs ls hW hS hls
  by_cases hc : y ≤ x
  · rw [if_pos hc] at h1
    exact lv_icmp_ge hx hb hdg ht (fun _ => k1 Q a h1 h2 H locs ls hW hS hls) (fun h => absurd hc h)
  · rw [if_neg hc] at h1
    exact lv_icmp_ge hx hb hdg ht (fun h => absurd h hc) (fun _ => k2 Q a h1 h2 H locs ls hW hS hls)

theorem cr_if_gt (X : cr_X Γ E cc nL own Ts rm rt) {x : Int32} {off : Int} (tgt : Nat) {r1 r2 : Option α} (hdg : decode cc pc = .ok (.ifCond .gt off, 3)) (ht : (pc : Int) + off = (tgt : Int)) (k1 : cr_P Γ E nL Φ kc ks S tgt lv (rest) r1) (k2 : cr_P Γ E nL Φ kc ks S (pc + 3) lv (rest) r2) : cr_P Γ E nL Φ kc ks S pc lv (.int x :: rest) (if 0 < x then r1 else r2) := by
  obtain ⟨p, l, e, R, s, m, args, below, meth, c⟩ := Γ
  obtain ⟨hx, hb, -⟩ := X
  intro Q a h1 h2 H locs ls hW hS hls
  by_cases hc : 0 < x
  · rw [if_pos hc] at h1
    exact lv_if_gt hx hb hdg ht (fun _ => k1 Q a h1 h2 H locs ls hW hS hls) (fun h => absurd hc h)
  · rw [if_neg hc] at h1
    exact lv_if_gt hx hb hdg ht (fun h => absurd h hc) (fun _ => k2 Q a h1 h2 H locs ls hW hS hls)

theorem cr_icmp_gt (X : cr_X Γ E cc nL own Ts rm rt) {x y : Int32} {off : Int} (tgt : Nat) {r1 r2 : Option α} (hdg : decode cc pc = .ok (.if_icmp .gt off, 3)) (ht : (pc : Int) + off = (tgt : Int)) (k1 : cr_P Γ E nL Φ kc ks S tgt lv (rest) r1) (k2 : cr_P Γ E nL Φ kc ks S (pc + 3) lv (rest) r2) : cr_P Γ E nL Φ kc ks S pc lv (.int y :: .int x :: rest) (if y < x then r1 else r2) := by
  obtain ⟨p, l, e, R, s, m, args, below, meth, c⟩ := Γ
  obtain ⟨hx, hb, -⟩ := X
  intro Q a h1 h2 H locs ls hW hS hls
  by_cases hc : y < x
  · rw [if_pos hc] at h1
    exact lv_icmp_gt hx hb hdg ht (fun _ => k1 Q a h1 h2 H locs ls hW hS hls) (fun h => absurd hc h)
  · rw [if_neg hc] at h1
    exact lv_icmp_gt hx hb hdg ht (fun h => absurd h hc) (fun _ => k2 Q a h1 h2 H locs ls hW hS hls)

theorem cr_if_le (X : cr_X Γ E cc nL own Ts rm rt) {x : Int32} {off : Int} (tgt : Nat) {r1 r2 : Option α} (hdg : decode cc pc = .ok (.ifCond .le off, 3)) (ht : (pc : Int) + off = (tgt : Int)) (k1 : cr_P Γ E nL Φ kc ks S tgt lv (rest) r1) (k2 : cr_P Γ E nL Φ kc ks S (pc + 3) lv (rest) r2) : cr_P Γ E nL Φ kc ks S pc lv (.int x :: rest) (if x ≤ 0 then r1 else r2) := by
  obtain ⟨p, l, e, R, s, m, args, below, meth, c⟩ := Γ
  obtain ⟨hx, hb, -⟩ := X
  intro Q a h1 h2 H locs ls hW hS hls
  by_cases hc : x ≤ 0
  · rw [if_pos hc] at h1
    exact lv_if_le hx hb hdg ht (fun _ => k1 Q a h1 h2 H locs ls hW hS hls) (fun h => absurd hc h)
  · rw [if_neg hc] at h1
    exact lv_if_le hx hb hdg ht (fun h => absurd h hc) (fun _ => k2 Q a h1 h2 H locs ls hW hS hls)

theorem cr_icmp_le (X : cr_X Γ E cc nL own Ts rm rt) {x y : Int32} {off : Int} (tgt : Nat) {r1 r2 : Option α} (hdg : decode cc pc = .ok (.if_icmp .le off, 3)) (ht : (pc : Int) + off = (tgt : Int)) (k1 : cr_P Γ E nL Φ kc ks S tgt lv (rest) r1) (k2 : cr_P Γ E nL Φ kc ks S (pc + 3) lv (rest) r2) : cr_P Γ E nL Φ kc ks S pc lv (.int y :: .int x :: rest) (if x ≤ y then r1 else r2) := by
  obtain ⟨p, l, e, R, s, m, args, below, meth, c⟩ := Γ
  obtain ⟨hx, hb, -⟩ := X
  intro Q a h1 h2 H locs ls hW hS hls
  by_cases hc : x ≤ y
  · rw [if_pos hc] at h1
    exact lv_icmp_le hx hb hdg ht (fun _ => k1 Q a h1 h2 H locs ls hW hS hls) (fun h => absurd hc h)
  · rw [if_neg hc] at h1
    exact lv_icmp_le hx hb hdg ht (fun h => absurd h hc) (fun _ => k2 Q a h1 h2 H locs ls hW hS hls)

theorem cr_goto (X : cr_X Γ E cc nL own Ts rm rt) {off : Int} (tgt : Nat) (hdg : decode cc pc = .ok (.goto off, 3)) (ht : (pc : Int) + off = (tgt : Int)) (kk : cr_P Γ E nL Φ kc ks S tgt lv (rest) res) : cr_P Γ E nL Φ kc ks S pc lv (rest) res := by
  obtain ⟨p, l, e, R, s, m, args, below, meth, c⟩ := Γ
  obtain ⟨hx, hb, -⟩ := X
  intro Q a h1 h2 H locs ls hW hS hls
  exact lv_goto hx hb hdg ht (kk Q a h1 h2 H locs ls hW hS hls)
theorem cr_tin (X : cr_X Γ E cc nL own Ts rm rt) {dflt lo hi : Int} {offs : Array Int} {len : Nat} {x : Int32} (v : Int32) {off : Int} (tgt : Nat) (hv : x = v) (hdg : decode cc pc = .ok (.tableswitch dflt lo hi offs, len)) (h12 : ¬ v.toInt < lo ∧ ¬ hi < v.toInt) (ho : offs[(v.toInt - lo).toNat]? = some off) (ht : (pc : Int) + off = (tgt : Int)) (kk : cr_P Γ E nL Φ kc ks S tgt lv (rest) res) : cr_P Γ E nL Φ kc ks S pc lv (.int x :: rest) res := by
  obtain ⟨p, l, e, R, s, m, args, below, meth, c⟩ := Γ
  obtain ⟨hx, hb, -⟩ := X
  intro Q a h1 h2 H locs ls hW hS hls
  subst hv
  exact lv_tableIn hx hb hdg h12.1 h12.2 ho ht (kk Q a h1 h2 H locs ls hW hS hls)
theorem cr_tout (X : cr_X Γ E cc nL own Ts rm rt) {dflt lo hi : Int} {offs : Array Int} {len : Nat} {x : Int32} (tgt : Nat) (hdg : decode cc pc = .ok (.tableswitch dflt lo hi offs, len)) (h12 : x.toInt < lo ∨ hi < x.toInt) (ht : (pc : Int) + dflt = (tgt : Int)) (kk : cr_P Γ E nL Φ kc ks S tgt lv (rest) res) : cr_P Γ E nL Φ kc ks S pc lv (.int x :: rest) res := by
  obtain ⟨p, l, e, R, s, m, args, below, meth, c⟩ := Γ
  obtain ⟨hx, hb, -⟩ := X
  intro Q a h1 h2 H locs ls hW hS hls
  exact lv_tableOut hx hb hdg h12 ht (kk Q a h1 h2 H locs ls hW hS hls)

theorem cr_iald (X : cr_X Γ E cc nL own Ts rm rt) {f j n : Nat} {h : Nat → Int32} {i : Int32} (ha : cr_at E S f j (.inl (E.2.2.2 0, n, .inl h))) (hdg : decode cc pc = .ok (.iaload, 1)) (kk : cr_P Γ E nL Φ kc ks S (pc + 1) lv (.int (h i.toNatClampNeg) :: rest) res) : cr_P Γ E nL Φ kc ks S pc lv (.int i :: .ref (E.2.1 f j) :: rest) (cr_gd (cr_in i n) res) := by
  refine cr_gdi (fun hg => ?_)
  have hg : vp_in i n := (show ¬ (i < 0 ∨ n ≤ i.toNatClampNeg) from of_decide_eq_true hg)
  obtain ⟨p, l, e, R, s, m, args, below, meth, c⟩ := Γ
  obtain ⟨hx, hb, hml, hown, hts, hK, -⟩ := X
  intro Q a h1 h2 H locs ls hW hS hls
  have hc := hW f j ha.1
  rw [ha.2] at hc
  exact va_iald (ws := [(E.2.1 f j, .inl (E.2.2.2 0, n, .inl h))]) hx hb hK (fun k q hq => by
    cases k with
    | zero => cases hq; exact hc
    | succ k => cases hq) 0 0 rfl rfl hg hdg (kk Q a h1 h2 H locs ls hW hS hls)
theorem cr_aald (X : cr_X Γ E cc nL own Ts rm rt) {f j n : Nat} {h : Nat → Nat} {i : Int32} (q0 : Nat) {C : String} {cA : ClassId} (hty : (cr_tys E)[q0]? = some (cA, .object C)) {kf : Nat → Option α} (ha : cr_at E S f j (.inl (cA, n, .inr (.inr (.inr (.inr (fun t => some (h t)))))))) (hdg : decode cc pc = .ok (.aaload, 1)) (kk : ∀ t, t < n → cr_P Γ E nL Φ kc ks S (pc + 1) lv (.ref (h t) :: rest) (kf t)) : cr_P Γ E nL Φ kc ks S pc lv (.int i :: .ref (E.2.1 f j) :: rest) (cr_gd (cr_in i n) (cr_bd i.toNatClampNeg kf)) := by
  refine cr_gdi (fun hg => ?_)
  have hg : vp_in i n := (show ¬ (i < 0 ∨ n ≤ i.toNatClampNeg) from of_decide_eq_true hg)
  obtain ⟨p, l, e, R, s, m, args, below, meth, c⟩ := Γ
  obtain ⟨hx, hb, hml, hown, hts, hK, -⟩ := X
  intro Q a h1 h2 H locs ls hW hS hls
  have hc := hW f j ha.1
  rw [ha.2] at hc
  have hin := hg
  exact va_aldq (ws := [(E.2.1 f j, .inl (cA, n, .inr (.inr (.inr (.inr (fun t => some (h t)))))))]) hx hb hK (fun k q hq => by
    cases k with
    | zero => cases hq; exact hc
    | succ k => cases hq) 0 q0 rfl hty hin hdg (kk i.toNatClampNeg (Nat.not_le.mp fun q => hin (Or.inr q)) Q a h1 h2 H locs ls hW hS hls)
theorem cr_get (X : cr_X Γ E cc nL own Ts rm rt) {f j ci : Nat} {fs : List Value} (ha : cr_at E S f j (.inr (ci, fs))) {C : String} {T : u_T} {N : Nat} (hc : vwCl[ci]? = some (C, T, N)) (hin : ∀ w ∈ u_ws C T N, w ∈ Ts) (k : Nat) (hk : k < N) {index : Nat} (hlink : Cond.fieldLink own index (T k).1 (T k).2.1 (T k).2.2.1 ∈ Ts) {v : Value} (hv : fs[k]? = some v) (hdg : decode cc pc = .ok (.getfield index, 3)) (kk : cr_P Γ E nL Φ kc ks S (pc + 3) lv (v :: rest) res) : cr_P Γ E nL Φ kc ks S pc lv (.ref (E.2.1 f j) :: rest) res := by
  obtain ⟨p, l, e, R, s, m, args, below, meth, c⟩ := Γ
  obtain ⟨hx, hb, hml, hown, hts, hK, -⟩ := X
  intro Q a h1 h2 H locs ls hW hS hls
  have hcl := hW f j ha.1
  rw [ha.2] at hcl
  exact va_get (ws := [(E.2.1 f j, .inr (ci, fs))]) hx hb hts hin hown hK (fun k q hq => by
    cases k with
    | zero => cases hq; exact hcl
    | succ k => cases hq) 0 rfl hc k hk (hts _ hlink) (fun _ h9 => h9) hv hdg (kk Q a h1 h2 H locs ls hW hS hls)

def cr_ids (b : Bool) : List (Nat × Nat) := ((List.range 8).flatMap (fun f => (List.range 25).map (fun j => (f, j))) ++ [(8, 0), (8, 1), (8, 2), (8, 3), (9, 0), (9, 1), (9, 2), (9, 3), (11, 0), (11, 1), (11, 2)]) ++ (if b = true then [(10, 0), (10, 1), (10, 2), (10, 3)] else [])
def cr_flb (E : cr_E) : Bool := decide (E.2.1 13 0 = 1)
theorem cr_flb_t {E : cr_E} : cr_flb E = true ↔ cr_fl E := by unfold cr_flb cr_fl; exact decide_eq_true_iff
def cr_ws (E : cr_E) (S : cr_S) : va_W := (cr_ids (cr_flb E)).map (fun q => (E.2.1 q.1 q.2, cr_wc E S q.1 q.2))
theorem cr_ids_nd : ∀ b, (cr_ids b).Nodup := by
  intro b
  cases b <;> decide +kernel
theorem cr_ids_in {E : cr_E} : ∀ q ∈ cr_ids (cr_flb E), cr_lv E q.1 q.2 := by
  have h : ∀ b, (cr_ids b).all (fun q => decide ((q.1 < 8 ∧ q.2 < 25) ∨ (q.1 = 8 ∧ q.2 < 4) ∨ (q.1 = 9 ∧ q.2 < 4) ∨ (q.1 = 10 ∧ q.2 < 4 ∧ b = true) ∨ (q.1 = 11 ∧ q.2 < 3))) = true := by
    intro b
    cases b <;> decide +kernel
  intro q hq
  have h9 := List.all_eq_true.mp (h _) q hq
  simp only [decide_eq_true_eq, cr_flb_t] at h9
  exact h9
theorem cr_ids_mem {E : cr_E} {f j : Nat} (h : cr_lv E f j) : (f, j) ∈ cr_ids (cr_flb E) := by
  have h1 : ∀ b f, f < 8 → ∀ j, j < 25 → (f, j) ∈ cr_ids b := by
    intro b
    cases b <;> decide +kernel
  have h2 : ∀ b j, j < 4 → (8, j) ∈ cr_ids b := by
    intro b
    cases b <;> decide +kernel
  have h3 : ∀ b j, j < 4 → (9, j) ∈ cr_ids b := by
    intro b
    cases b <;> decide +kernel
  have h4 : ∀ j, j < 4 → (10, j) ∈ cr_ids true := by decide +kernel
  have h5 : ∀ b j, j < 3 → (11, j) ∈ cr_ids b := by
    intro b
    cases b <;> decide +kernel
  rcases h with ⟨a, b⟩ | ⟨rfl, b⟩ | ⟨rfl, b⟩ | ⟨rfl, b, c⟩ | ⟨rfl, b⟩
  · exact h1 _ f a j b
  · exact h2 _ j b
  · exact h3 _ j b
  · rw [cr_flb_t.mpr c]; exact h4 j b
  · exact h5 _ j b
theorem cr_ids_at {E : cr_E} {f j : Nat} (h : cr_lv E f j) : ∃ k : Nat, (cr_ids (cr_flb E))[k]? = some (f, j) := List.getElem?_of_mem (cr_ids_mem h)
theorem cr_ws_at {E : cr_E} {S : cr_S} {f j k : Nat} {e : va_E} (hk : (cr_ids (cr_flb E))[k]? = some (f, j)) (he : cr_wc E S f j = e) : (cr_ws E S)[k]? = some (E.2.1 f j, e) := by
  subst he
  simp [cr_ws, hk]
theorem cr_WH.P {E : cr_E} {S : cr_S} {H : Heap} (h : cr_WH E S H) : va_P E.1 vwCl (cr_ws E S) H := by
  intro k q hk
  simp only [cr_ws, List.getElem?_map, Option.map_eq_some_iff] at hk
  obtain ⟨⟨f, j⟩, h1, rfl⟩ := hk
  exact h f j (cr_ids_in _ (List.mem_of_getElem? h1))
theorem cr_WH.of {E : cr_E} {S : cr_S} {H : Heap} (h : va_P E.1 vwCl (cr_ws E S) H) : cr_WH E S H := by
  intro f j hl
  obtain ⟨k, hk⟩ := cr_ids_at hl
  exact h k _ (cr_ws_at hk rfl)
theorem cr_EK.D {E : cr_E} (h : cr_EK E) (S : cr_S) : va_D E.2.2.1 (cr_ws E S) := by
  refine ⟨fun i j p q hi hj e => ?_, fun k q hk => ?_⟩
  · simp only [cr_ws, List.getElem?_map, Option.map_eq_some_iff] at hi hj
    obtain ⟨⟨f, a⟩, h1, rfl⟩ := hi
    obtain ⟨⟨g, b⟩, h2, rfl⟩ := hj
    obtain ⟨rfl, rfl⟩ := h.1 f a g b (cr_ids_in _ (List.mem_of_getElem? h1)) (cr_ids_in _ (List.mem_of_getElem? h2)) e
    exact (List.getElem?_inj (List.getElem?_eq_some_iff.mp h1).1 (cr_ids_nd _)).mp (h1.trans h2.symm)
  · simp only [cr_ws, List.getElem?_map, Option.map_eq_some_iff] at hk
    obtain ⟨⟨f, a⟩, h1, rfl⟩ := hk
    exact h.2 f a (cr_ids_in _ (List.mem_of_getElem? h1))
theorem cr_ws_set {E : cr_E} {S S' : cr_S} {f j k : Nat} {e : va_E} (hk : (cr_ids (cr_flb E))[k]? = some (f, j)) (he : cr_wc E S' f j = e) (ho : ∀ f' j', ¬ (f' = f ∧ j' = j) → cr_lv E f' j' → cr_wc E S' f' j' = cr_wc E S f' j') : (cr_ws E S).set k (E.2.1 f j, e) = cr_ws E S' := by
  refine List.ext_getElem? (fun i => ?_)
  rw [List.getElem?_set]
  by_cases hi : k = i
  · subst hi
    have hlt : k < (cr_ws E S).length := by
      have := (List.getElem?_eq_some_iff.mp hk).1
      simpa [cr_ws] using this
    rw [if_pos rfl, if_pos hlt, cr_ws_at hk he]
  · rw [if_neg hi]
    simp only [cr_ws, List.getElem?_map]
    cases hq : (cr_ids (cr_flb E))[i]? with
    | none => rfl
    | some q =>
      have hne : ¬ (q.1 = f ∧ q.2 = j) := by
        rintro ⟨rfl, rfl⟩
        exact hi ((List.getElem?_inj (List.getElem?_eq_some_iff.mp hk).1 (cr_ids_nd _)).mp (hk.trans hq.symm))
      simp only [Option.map_some]
      rw [ho q.1 q.2 hne (cr_ids_in _ (List.mem_of_getElem? hq))]
theorem cr_iast0 (X : cr_X Γ E cc nL own Ts rm rt) (S' : cr_S) {f j n : Nat} {h : Nat → Int32} {i x : Int32} (ha : cr_at E S f j (.inl (E.2.2.2 0, n, .inl h))) (ha' : cr_wc E S' f j = .inl (E.2.2.2 0, n, .inl (upd h i.toNatClampNeg x))) (ho : ∀ f' j', ¬ (f' = f ∧ j' = j) → cr_lv E f' j' → cr_wc E S' f' j' = cr_wc E S f' j') (hdg : decode cc pc = .ok (.iastore, 1)) (kk : cr_P Γ E nL Φ kc ks S' (pc + 1) lv (rest) res) : cr_P Γ E nL Φ kc ks S pc lv (.int x :: .int i :: .ref (E.2.1 f j) :: rest) (cr_gd (cr_in i n) res) := by
  refine cr_gdi (fun hg => ?_)
  have hg : vp_in i n := (show ¬ (i < 0 ∨ n ≤ i.toNatClampNeg) from of_decide_eq_true hg)
  obtain ⟨p, l, e, R, s, m, args, below, meth, c⟩ := Γ
  obtain ⟨hx, hb, hml, hown, hts, hK, hEK, -⟩ := X
  intro Q a h1 h2 H locs ls hW hS hls
  obtain ⟨k, hk⟩ := cr_ids_at ha.1
  refine va_iast hx hb hK hW.P (hEK.D S) hS k 0 (cr_ws_at hk ha.2) rfl hg hdg (fun H1 locs1 hP1 _ hS1 => ?_)
  rw [cr_ws_set hk ha' ho] at hP1
  exact kk Q a h1 h2 H1 locs1 ls (cr_WH.of hP1) hS1 hls
theorem cr_put0 (X : cr_X Γ E cc nL own Ts rm rt) (S' : cr_S) {f j ci : Nat} {fs : List Value} (ha : cr_at E S f j (.inr (ci, fs))) {C : String} {T : u_T} {N : Nat} (hc : vwCl[ci]? = some (C, T, N)) (hin : ∀ w ∈ u_ws C T N, w ∈ Ts) (ty0 : Nat → FieldType) (hty : ∀ k, k < N → parseFieldDescriptor (T k).2.2.1 = some (ty0 k)) (hnm : ∀ a, a < N → ∀ b, b < N → a ≠ b → (T a).2.1 ≠ (T b).2.1) (k : Nat) (hk : k < N) {index : Nat} (hlink : Cond.fieldLink own index (T k).1 (T k).2.1 (T k).2.2.1 ∈ Ts) (hfin : (T k).2.2.2 = false) {v : Value} (hn : narrow (ty0 k) v = v) (hfit : fits (ty0 k) v = true) (hl : k < fs.length) (ha' : cr_wc E S' f j = .inr (ci, fs.set k v)) (ho : ∀ f' j', ¬ (f' = f ∧ j' = j) → cr_lv E f' j' → cr_wc E S' f' j' = cr_wc E S f' j') (hdg : decode cc pc = .ok (.putfield index, 3)) (kk : cr_P Γ E nL Φ kc ks S' (pc + 3) lv (rest) res) : cr_P Γ E nL Φ kc ks S pc lv (v :: .ref (E.2.1 f j) :: rest) res := by
  obtain ⟨p, l, e, R, s, m, args, below, meth, c⟩ := Γ
  obtain ⟨hx, hb, hml, hown, hts, hK, hEK, -⟩ := X
  intro Q a h1 h2 H locs ls hW hS hls
  obtain ⟨k9, hk9⟩ := cr_ids_at ha.1
  refine va_put hx hb hts hin ty0 hty hnm hown hK hW.P (hEK.D S) hS k9 (cr_ws_at hk9 ha.2) hc k hk (hts _ hlink) (fun _ h9 => h9) hfin (hty k hk) hn hfit hl hdg (fun H1 locs1 hP1 _ hS1 => ?_)
  rw [cr_ws_set hk9 ha' ho] at hP1
  exact kk Q a h1 h2 H1 locs1 ls (cr_WH.of hP1) hS1 hls
theorem cr_acopy0 (X : cr_X Γ E cc nL own Ts rm rt) (S' : cr_S) {f j f2 j2 n0 n1 : Nat} {h0 h1 : Nat → Int32} (ha0 : cr_at E S f2 j2 (.inl (E.2.2.2 0, n0, .inl h0))) (ha : cr_at E S f j (.inl (E.2.2.2 0, n1, .inl h1))) {sp dp n : Int32} (hs : ¬ sp < 0 ∧ ¬ dp < 0 ∧ ¬ n < 0 ∧ sp.toNatClampNeg + n.toNatClampNeg ≤ n0 ∧ dp.toNatClampNeg + n.toNatClampNeg ≤ n1) (ha' : cr_wc E S' f j = .inl (E.2.2.2 0, n1, .inl (va_cpy h0 h1 sp.toNatClampNeg dp.toNatClampNeg n.toNatClampNeg))) (ho : ∀ f' j', ¬ (f' = f ∧ j' = j) → cr_lv E f' j' → cr_wc E S' f' j' = cr_wc E S f' j') {index : Nat} (hlink : Cond.methodLink own index arraycopyName ∈ Ts) (hnat : Cond.native arraycopyName ∈ Ts) (hstat : Cond.static arraycopyName ∈ Ts) (hini : Cond.initialized "java/lang/System" ∈ Ts) (hfr : 1 ≤ rm.frames) (hlo : (rest.map fun v => v.category).sum + (nativeFrameWords "java/lang/System" "arraycopy" 5 + 11) ≤ rm.locals) (hdg : decode cc pc = .ok (.invokestatic index, 3)) (kk : cr_P Γ E nL Φ kc ks S' (pc + 3) lv (rest) res) : cr_P Γ E nL Φ kc ks S pc lv (.int n :: .int dp :: .ref (E.2.1 f j) :: .int sp :: .ref (E.2.1 f2 j2) :: rest) res := by
  obtain ⟨p, l, e, R, s, m, args, below, meth, c⟩ := Γ
  obtain ⟨hx, hb, hml, hown, hts, hK, hEK, hSF, hlk, hRm, hrt⟩ := X
  have hRm : R = rm := hRm
  subst hRm
  intro Q a g1 g2 H locs ls hW hS hls
  obtain ⟨k, hk⟩ := cr_ids_at ha.1
  obtain ⟨k0, hk0⟩ := cr_ids_at ha0.1
  refine va_copyi hx hb (hml.trans hls.1.symm) hown (hts _ hlink) (hts _ hnat) (hts _ hstat) (hts _ hini) hK hW.P (hEK.D S) hS k0 k 0 0 (cr_ws_at hk0 ha0.2) (cr_ws_at hk ha.2) rfl rfl rfl hs.1 hs.2.1 hs.2.2.1 hs.2.2.2.1 hs.2.2.2.2 (fun i _ => rfl) hfr hlo hdg (fun H1 locs1 hP1 _ hS1 => ?_)
  rw [cr_ws_set hk ha' ho] at hP1
  exact kk Q a g1 g2 H1 locs1 ls (cr_WH.of hP1) hS1 hls
theorem cr_ialdk (X : cr_X Γ E cc nL own Ts rm rt) {f j n : Nat} {h : Nat → Int32} {i : Int32} (k : Nat) (hk : i.toNatClampNeg = k) (hi : cr_in i n = true) (ha : cr_at E S f j (.inl (E.2.2.2 0, n, .inl h))) (hdg : decode cc pc = .ok (.iaload, 1)) (kk : cr_P Γ E nL Φ kc ks S (pc + 1) lv (.int (h k) :: rest) res) : cr_P Γ E nL Φ kc ks S pc lv (.int i :: .ref (E.2.1 f j) :: rest) res := by
  subst hk
  have h9 := cr_iald X ha (i := i) hdg kk
  rw [hi] at h9
  exact h9
end CR
