section CR6
variable {α : Type} {Γ : cr_C} {E : cr_E} {nL : Nat} {Φ : α → (State → Prop) → Prop} {kc ks : Nat} {S : cr_S} {pc : Nat} {lv : List (Nat × Value)} {rest : List Value} {res : Option α} {cc : ByteArray} {own : String} {Ts : List Cond} {rm : Room} {rt : Option FieldType}
def cr_ushr (x y : Int32) : Int32 := (x.toUInt32 >>> (y.toUInt32 &&& Int32.toUInt32 31)).toInt32
theorem cr_ishr (X : cr_X Γ E cc nL own Ts rm rt) {x y : Int32} (hdg : decode cc pc = .ok (.ishr, 1)) (kk : cr_P Γ E nL Φ kc ks S (pc + 1) lv (.int (x >>> (y &&& 31)) :: rest) res) : cr_P Γ E nL Φ kc ks S pc lv (.int y :: .int x :: rest) res := by
  obtain ⟨p, l, e, R, s, m, args, below, meth, c⟩ := Γ
  obtain ⟨hx, hb, -⟩ := X
  intro Q a h1 h2 H locs ls hW hS hls
  exact lv_ishr hx hb hdg (kk Q a h1 h2 H locs ls hW hS hls)
theorem cr_iushr (X : cr_X Γ E cc nL own Ts rm rt) {x y : Int32} (hdg : decode cc pc = .ok (.iushr, 1)) (kk : cr_P Γ E nL Φ kc ks S (pc + 1) lv (.int (cr_ushr x y) :: rest) res) : cr_P Γ E nL Φ kc ks S pc lv (.int y :: .int x :: rest) res := by
  obtain ⟨p, l, e, R, s, m, args, below, meth, c⟩ := Γ
  obtain ⟨hx, hb, -⟩ := X
  intro Q a h1 h2 H locs ls hW hS hls
  exact lv_iushr hx hb hdg rfl (kk Q a h1 h2 H locs ls hW hS hls)
theorem cr_ineg (X : cr_X Γ E cc nL own Ts rm rt) {x : Int32} (hdg : decode cc pc = .ok (.ineg, 1)) (kk : cr_P Γ E nL Φ kc ks S (pc + 1) lv (.int (-x) :: rest) res) : cr_P Γ E nL Φ kc ks S pc lv (.int x :: rest) res := by
  obtain ⟨p, l, e, R, s, m, args, below, meth, c⟩ := Γ
  obtain ⟨hx, hb, -⟩ := X
  intro Q a h1 h2 H locs ls hW hS hls
  exact lv_ineg hx hb hdg (kk Q a h1 h2 H locs ls hW hS hls)
theorem cr_alen (X : cr_X Γ E cc nL own Ts rm rt) {f j n : Nat} {h : Nat → Int32} {v : Int32} (ha : cr_at E S f j (.inl (E.2.2.2 0, n, .inl h))) (hv : Int32.ofNat n = v) (hdg : decode cc pc = .ok (.arraylength, 1)) (kk : cr_P Γ E nL Φ kc ks S (pc + 1) lv (.int v :: rest) res) : cr_P Γ E nL Φ kc ks S pc lv (.ref (E.2.1 f j) :: rest) res := by
  obtain ⟨p, l, e, R, s, m, args, below, meth, c⟩ := Γ
  obtain ⟨hx, hb, hml, hown, hts, hK, -⟩ := X
  intro Q a h1 h2 H locs ls hW hS hls
  have hc := hW f j ha.1
  rw [ha.2] at hc
  exact va_alen (ws := [(E.2.1 f j, .inl (E.2.2.2 0, n, .inl h))]) hx hb hK (fun k q hq => by
    cases k with
    | zero => cases hq; exact hc
    | succ k => cases hq) 0 0 rfl rfl hv hdg (kk Q a h1 h2 H locs ls hW hS hls)
end CR6
