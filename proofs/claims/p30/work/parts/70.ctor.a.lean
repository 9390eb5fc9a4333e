/-! ### constructors: a world of cells by number -/
def wl (n : Nat) (g : Nat → Nat × va_E) : va_W := (List.range n).map g
def gu (g : Nat → Nat × va_E) (i : Nat) (x : Nat × va_E) : Nat → Nat × va_E := fun k => if k = i then x else g k
theorem wl_at {n i : Nat} {g : Nat → Nat × va_E} (h : i < n) : (wl n g)[i]? = some (g i) := by
  unfold wl
  rw [List.getElem?_map, List.getElem?_range h]
  rfl
theorem wl_some {n k : Nat} {g : Nat → Nat × va_E} {q : Nat × va_E} (h : (wl n g)[k]? = some q) : k < n ∧ q = g k := by
  by_cases e : k < n
  · rw [wl_at e] at h
    exact ⟨e, (Option.some.inj h).symm⟩
  · unfold wl at h
    rw [List.getElem?_eq_none (by rw [List.length_map, List.length_range]; omega)] at h
    cases h
theorem wl_len (n : Nat) (g : Nat → Nat × va_E) : (wl n g).length = n := by
  unfold wl
  rw [List.length_map, List.length_range]
theorem wl_set {n i : Nat} {g : Nat → Nat × va_E} {x : Nat × va_E} (h : i < n) : (wl n g).set i x = wl n (gu g i x) := by
  apply List.ext_getElem?
  intro k
  rw [List.getElem?_set]
  by_cases e : i = k
  · subst e
    rw [if_pos rfl, wl_len, if_pos h, wl_at h]
    unfold gu
    rw [if_pos rfl]
  · rw [if_neg e]
    by_cases ek : k < n
    · rw [wl_at ek, wl_at ek]
      unfold gu
      rw [if_neg (fun h => e h.symm)]
    · rw [List.getElem?_eq_none (by rw [wl_len]; omega), List.getElem?_eq_none (by rw [wl_len]; omega)]
theorem wl_push {n : Nat} {g : Nat → Nat × va_E} {x : Nat × va_E} : wl n g ++ [x] = wl (n + 1) (gu g n x) := by
  apply List.ext_getElem?
  intro k
  by_cases e : k < n
  · rw [List.getElem?_append_left (by rw [wl_len]; exact e), wl_at e, wl_at (show k < n + 1 by omega)]
    unfold gu
    rw [if_neg (by omega)]
  · rw [List.getElem?_append_right (by rw [wl_len]; omega), wl_len]
    by_cases e2 : k = n
    · subst e2
      rw [Nat.sub_self, wl_at (show k < k + 1 by omega)]
      unfold gu
      rw [if_pos rfl]
      rfl
    · rw [List.getElem?_eq_none (by rw [List.length_singleton]; omega), List.getElem?_eq_none (by rw [wl_len]; omega)]
abbrev tyL (c : Nat → ClassId) : List (ClassId × FieldType) := [(c 0, .int), (c 0, .int), (c 2, .object "CraneCampaign$Farm"), (c 3, .object "CraneCampaign$Turbine")]
theorem ct_ty {D : va_G} {c : Nat → ClassId} {s : State} {cA : ClassId} {ty : FieldType} {i : Nat} (hK : va_K D vwCl (tyL c) s) (hK' : va_K D vwCl (tyL c ++ [(cA, ty)]) s) (ht : (tyL c)[i]? = some (c i, ty)) : cA = c i := by
  have h1 : va_RA s cA ty := (hK'.2 4 (cA, ty) rfl).2
  have h2 : va_RA s (c i) ty := (hK.2 i _ ht).2
  cases ty with
  | object C =>
    obtain ⟨_, _, _, _, _, e1⟩ := h1
    obtain ⟨_, _, _, _, _, e2⟩ := h2
    exact Option.some.inj (e1.symm.trans e2)
  | _ => exact Option.some.inj (Eq.trans (Eq.symm h1) h2)
def ct_nwM : List (String × Nat × MethodName) := [(RX8, 32, yX6_init), (RX2, 23, yX0_init), (RX2, 30, yX3_init), (RX2, 37, yX4_init), (RX2, 44, yX1_init), (RX2, 51, yX7_init), (RX2, 66, yX5_init)]
def ctE (A0 : Nat → Prop) : cr_E := ((fun _ => 0, fun _ _ => 0), fun _ _ => 0, A0, fun _ => 0)
def ct_EX (A0 : Nat → Prop) (U : State) : Prop := (∀ q ∈ ct_nwM, va_Nw (.methodLinkNest q.1 q.2.1 q.2.2 "CraneCampaign") U) ∧ va_Nw (.fieldLinkNest RX2 67 "CraneCampaign" "SETTING_AT_FIRST" "[I" "CraneCampaign") U ∧ va_AO "CraneCampaign$Turbine" U ∧ va_AO "CraneCampaign$Farm" U ∧ cr_SA "SETTING_AT_FIRST" "[I" 7 cr_c0 (ctE A0) U
theorem ct_EX.kept {A0 : Nat → Prop} {u U : State} (h : ct_EX A0 u) (hW : u.WarmedH U.vm) (hz : u.heap.size ≤ U.heap.size) (hq : ∀ a : Nat, a < u.heap.size → ¬ A0 a → U.heap[a]? = u.heap[a]?) : ct_EX A0 U :=
  ⟨fun q hq9 => va_Nw.warmM hW (h.1 q hq9), va_Nw.warmF hW h.2.1, h.2.2.1.moved hW.alike, h.2.2.2.1.moved hW.alike, cr_SA.kept h.2.2.2.2 hW.alike hz hq⟩
def ct_Pc (A0 : Nat → Prop) (D : va_G) (c : Nat → ClassId) (h0 sz : Nat) (x : va_E) (U : State) : Prop := U.heap.size = sz ∧ va_P D vwCl [(h0, x)] U.heap ∧ va_K D vwCl (tyL c) U ∧ ct_EX A0 U ∧ A0 h0 ∧ ∀ q, sz ≤ q → A0 q
theorem ct_blind (A0 : Nat → Prop) (D : va_G) (c : Nat → ClassId) (h0 sz : Nat) (x : va_E) (av : List Value) : FrameBlind (va_Pc av (ct_Pc A0 D c h0 sz x)) := by
  intro a U g mk h
  obtain ⟨h1, h2, h3, h4, h5, h6, h7⟩ := h
  exact ⟨h1, h2, h3, va_K.moved (u := U) (U := U.calling g mk a) (Vm.Alike.refl U.vm) h4, h5.kept (u := U) (U := U.calling g mk a) (State.WarmedH.refl U) (Nat.le_refl _) (fun _ _ _ => rfl), h6, h7⟩
def ct_B (D : va_G) (A : Nat → Prop) (n : Nat) (g : Nat → Nat × va_E) (t : State) : Prop := va_P D vwCl (wl n g) t.heap ∧ va_D A (wl n g)
def ct_M (l : Launch) (A0 : Nat → Prop) (D : va_G) (c : Nat → ClassId) (y : MethodName) (ws : List Cond) (rm : Room) (x : va_E) (n mc ms : Nat) (spec : (Nat → Nat × va_E) → Prop) : Prop := ∀ h0 sz : Nat, Met l y ws rm (va_Pc [.ref h0] (ct_Pc A0 D c h0 sz x)) (va_Qv (fun g => (g 0).1 = h0 ∧ spec g) (ct_B D (va_A [(h0, x)] sz) n) (va_A [(h0, x)] sz)) mc ms (va_A [(h0, x)] sz)
def ct_W (Γ : cr_C) (D : va_G) (A : Nat → Prop) (nL : Nat) (Q : State → Prop) (kc ks n : Nat) (g : Nat → Nat × va_E) (pc : Nat) (lv : List (Nat × Value)) (st : List Value) : Prop :=
  ∀ (H : Heap) (locs : List Loc) (ls : Array Slot), va_P D vwCl (wl n g) H → va_D A (wl n g) → va_S A Γ.2.2.2.2.1.heap H locs → lv_has ls nL lv →
    W Γ.1 Γ.2.1 Γ.2.2.1 Γ.2.2.2.1 Γ.2.2.2.2.1 Γ.2.2.2.2.2.1 Γ.2.2.2.2.2.2.1 Γ.2.2.2.2.2.2.2.1 Γ.2.2.2.2.2.2.2.2.1 Γ.2.2.2.2.2.2.2.2.2 H locs kc ks Q (F0 Γ.2.2.2.2.2.1 pc ls st)
def ct_X (Γ : cr_C) (D : va_G) (c : Nat → ClassId) (A0 A : Nat → Prop) (cc : ByteArray) (nL : Nat) (own : String) (Ts : List Cond) (rm : Room) : Prop :=
  Γ.1.tables.exec = Jvm.exec ∧ Γ.2.2.2.2.2.2.2.2.2.code = cc ∧ Γ.2.2.2.2.2.2.2.2.2.maxLocals = nL ∧ Γ.2.2.2.2.1.vm.findClass own = some Γ.2.2.2.2.2.1.cls ∧ (∀ w ∈ Ts, w.before Γ.2.2.2.2.2.2.1 Γ.2.2.2.2.1 = true) ∧
  va_K D vwCl (tyL c) Γ.2.2.2.2.1 ∧ ct_EX A0 Γ.2.2.2.2.1 ∧ (∀ q, Γ.2.2.2.2.1.heap.size ≤ q → A q) ∧ (∀ q, A q → A0 q) ∧ Γ.2.2.2.2.2.2.2.2.1.locks = false ∧ Γ.2.2.2.1 = rm ∧ (own ≠ RL → Γ.2.2.2.2.2.2.2.2.1.sig.returnType = none) ∧ (own ≠ RL → Γ.2.2.2.2.2.2.2.2.1.name = "<init>")
section CT
variable {Γ : cr_C} {D : va_G} {c : Nat → ClassId} {A0 A : Nat → Prop} {cc : ByteArray} {nL : Nat} {own : String} {Ts : List Cond} {rm : Room} {Q : State → Prop} {kc ks n pc : Nat} {g : Nat → Nat × va_E} {lv : List (Nat × Value)} {rest : List Value}
theorem ct_aload (X : ct_X Γ D c A0 A cc nL own Ts rm) (q : Nat) {k : Fin 4} {i x : Nat} (hi : (k : Nat) = i) (hk : lv[q]? = some (i, .ref x)) (hdg : decode cc pc = .ok (.aload_n k, 1)) (kk : ct_W Γ D A nL Q kc ks n g (pc + 1) lv (.ref x :: rest)) : ct_W Γ D A nL Q kc ks n g pc lv rest := by
  obtain ⟨p, l, e, R, s, m, args, below, meth, co⟩ := Γ
  obtain ⟨hx, hb, -⟩ := X
  intro H locs ls hP hD hS hl
  exact lv_aload_n hx hb hdg hi (lv_at hl q hk) (kk H locs ls hP hD hS hl)
theorem ct_iload (X : ct_X Γ D c A0 A cc nL own Ts rm) (q : Nat) {k : Fin 4} {i : Nat} {x : Int32} (hi : (k : Nat) = i) (hk : lv[q]? = some (i, .int x)) (hdg : decode cc pc = .ok (.iload_n k, 1)) (kk : ct_W Γ D A nL Q kc ks n g (pc + 1) lv (.int x :: rest)) : ct_W Γ D A nL Q kc ks n g pc lv rest := by
  obtain ⟨p, l, e, R, s, m, args, below, meth, co⟩ := Γ
  obtain ⟨hx, hb, -⟩ := X
  intro H locs ls hP hD hS hl
  exact lv_iload_n hx hb hdg hi (lv_at hl q hk) (kk H locs ls hP hD hS hl)
theorem ct_istore (X : ct_X Γ D c A0 A cc nL own Ts rm) (lv' : List (Nat × Value)) {k : Fin 4} {i : Nat} {x : Int32} (hi : (k : Nat) = i) (hn : i < nL) (hl' : (i, Value.int x) :: lv.filter (fun q => !(q.1 == i) && !(q.1 + 1 == i && q.2.category == 2)) = lv') (hdg : decode cc pc = .ok (.istore_n k, 1)) (kk : ct_W Γ D A nL Q kc ks n g (pc + 1) lv' rest) : ct_W Γ D A nL Q kc ks n g pc lv (.int x :: rest) := by
  obtain ⟨p, l, e, R, s, m, args, below, meth, co⟩ := Γ
  obtain ⟨hx, hb, -⟩ := X
  intro H locs ls hP hD hS hl
  exact lv_istore_n hx hb hdg hi hl hn hl' (fun ls' h => kk H locs ls' hP hD hS h)
theorem ct_iinc (X : ct_X Γ D c A0 A cc nL own Ts rm) (v : Int32) (lv' : List (Nat × Value)) (q : Nat) {i : Nat} {z : Int} {x : Int32} (hk : lv[q]? = some (i, .int x)) (hv : x + Int32.ofInt z = v) (hn : i < nL) (hl' : (i, Value.int v) :: lv.filter (fun q => !(q.1 == i) && !(q.1 + 1 == i && q.2.category == 2)) = lv') (hdg : decode cc pc = .ok (.iinc i z, 3)) (kk : ct_W Γ D A nL Q kc ks n g (pc + 3) lv' rest) : ct_W Γ D A nL Q kc ks n g pc lv rest := by
  obtain ⟨p, l, e, R, s, m, args, below, meth, co⟩ := Γ
  obtain ⟨hx, hb, -⟩ := X
  intro H locs ls hP hD hS hl
  exact lv_iinc hx hb hdg hl hk hv hn hl' (fun ls' h => kk H locs ls' hP hD hS h)
theorem ct_iconst (X : ct_X Γ D c A0 A cc nL own Ts rm) (v : Int32) {z : Int} (hv : Int32.ofInt z = v) (hdg : decode cc pc = .ok (.iconst z, 1)) (kk : ct_W Γ D A nL Q kc ks n g (pc + 1) lv (.int v :: rest)) : ct_W Γ D A nL Q kc ks n g pc lv rest := by
  obtain ⟨p, l, e, R, s, m, args, below, meth, co⟩ := Γ
  obtain ⟨hx, hb, -⟩ := X
  intro H locs ls hP hD hS hl
  exact lv_iconst hx hb hdg hv (kk H locs ls hP hD hS hl)
theorem ct_bipush (X : ct_X Γ D c A0 A cc nL own Ts rm) (v : Int32) {z : Int} (hv : (Int8.ofInt z).toInt32 = v) (hdg : decode cc pc = .ok (.bipush z, 2)) (kk : ct_W Γ D A nL Q kc ks n g (pc + 2) lv (.int v :: rest)) : ct_W Γ D A nL Q kc ks n g pc lv rest := by
  obtain ⟨p, l, e, R, s, m, args, below, meth, co⟩ := Γ
  obtain ⟨hx, hb, -⟩ := X
  intro H locs ls hP hD hS hl
  exact lv_bipush hx hb hdg hv (kk H locs ls hP hD hS hl)
theorem ct_sipush (X : ct_X Γ D c A0 A cc nL own Ts rm) (v : Int32) {z : Int} (hv : (Int16.ofInt z).toInt32 = v) (hdg : decode cc pc = .ok (.sipush z, 3)) (kk : ct_W Γ D A nL Q kc ks n g (pc + 3) lv (.int v :: rest)) : ct_W Γ D A nL Q kc ks n g pc lv rest := by
  obtain ⟨p, l, e, R, s, m, args, below, meth, co⟩ := Γ
  obtain ⟨hx, hb, -⟩ := X
  intro H locs ls hP hD hS hl
  exact lv_sipush hx hb hdg hv (kk H locs ls hP hD hS hl)
theorem ct_dup (X : ct_X Γ D c A0 A cc nL own Ts rm) {x : Nat} (hdg : decode cc pc = .ok (.dup, 1)) (kk : ct_W Γ D A nL Q kc ks n g (pc + 1) lv (.ref x :: .ref x :: rest)) : ct_W Γ D A nL Q kc ks n g pc lv (.ref x :: rest) := by
  obtain ⟨p, l, e, R, s, m, args, below, meth, co⟩ := Γ
  obtain ⟨hx, hb, -⟩ := X
  intro H locs ls hP hD hS hl
  exact lv_dup hx hb hdg rfl (kk H locs ls hP hD hS hl)
theorem ct_goto (X : ct_X Γ D c A0 A cc nL own Ts rm) (tgt : Nat) {off : Int} (hdg : decode cc pc = .ok (.goto off, 3)) (ht : (pc : Int) + off = (tgt : Int)) (kk : ct_W Γ D A nL Q kc ks n g tgt lv rest) : ct_W Γ D A nL Q kc ks n g pc lv rest := by
  obtain ⟨p, l, e, R, s, m, args, below, meth, co⟩ := Γ
  obtain ⟨hx, hb, -⟩ := X
  intro H locs ls hP hD hS hl
  exact lv_goto hx hb hdg ht (kk H locs ls hP hD hS hl)
theorem ct_icmpge (X : ct_X Γ D c A0 A cc nL own Ts rm) (tgt : Nat) {x y : Int32} {off : Int} (hdg : decode cc pc = .ok (.if_icmp .ge off, 3)) (ht : (pc : Int) + off = (tgt : Int)) (kt : y ≤ x → ct_W Γ D A nL Q kc ks n g tgt lv rest) (kf : ¬ y ≤ x → ct_W Γ D A nL Q kc ks n g (pc + 3) lv rest) : ct_W Γ D A nL Q kc ks n g pc lv (.int y :: .int x :: rest) := by
  obtain ⟨p, l, e, R, s, m, args, below, meth, co⟩ := Γ
  obtain ⟨hx, hb, -⟩ := X
  intro H locs ls hP hD hS hl
  exact lv_icmp_ge hx hb hdg ht (fun h => kt h H locs ls hP hD hS hl) (fun h => kf h H locs ls hP hD hS hl)
theorem ct_obj (X : ct_X Γ D c A0 A cc nL own Ts rm) {x idx : Nat} (hlink : Cond.methodLink own idx objectInit ∈ Ts) (hinst : Cond.instanceMethod objectInit ∈ Ts) (hcode : Cond.code objectInit ⟨#[0xb1]⟩ 1 none ∈ Ts) (hfr : 1 ≤ rm.frames) (hlo : (rest.map fun v => v.category).sum + 12 ≤ rm.locals) (hdg : decode cc pc = .ok (.invokespecial idx, 3)) (kk : ct_W Γ D A nL Q kc ks n g (pc + 3) lv rest) : ct_W Γ D A nL Q kc ks n g pc lv (.ref x :: rest) := by
  obtain ⟨p, l, e, R, s, m, args, below, meth, co⟩ := Γ
  obtain ⟨hx, hb, hml, hown, hts, hK, hEX, hA, hAA, hlk, hRm, hrt, hnm⟩ := X
  have hRm : R = rm := hRm
  subst hRm
  intro H locs ls hP hD hS hl
  refine W.objInit hx hb hown (hts _ hlink) (hts _ hinst) (hts _ hcode) rfl (by rw [hml]; exact hl.1) rfl hdg hfr ?_ ?_
  · show 2 * 0 + (rest.map fun v => v.category).sum + 12 ≤ R.locals
    omega
  · exact kk H locs ls hP hD hS hl
theorem ct_newi (X : ct_X Γ D c A0 A cc nL own Ts rm) {z : Int32} (N' : Nat) (harr : Cond.arrayClass .int ∈ Ts) (hn : ¬ z < 0) (hN : z.toNatClampNeg = N') (hb4 : N' ≤ 100000) (hcells : kc + 1 ≤ rm.cells) (hslots : ks + N' ≤ rm.slots) (hdg : decode cc pc = .ok (.newarray .int, 2)) (kk : ∀ q : Nat, ct_W Γ D A nL Q (kc + 1) (ks + N') (n + 1) (gu g n (q, .inl (c 0, N', .inl (fun _ => 0)))) (pc + 2) lv (.ref q :: rest)) : ct_W Γ D A nL Q kc ks n g pc lv (.int z :: rest) := by
  obtain ⟨p, l, e, R, s, m, args, below, meth, co⟩ := Γ
  obtain ⟨hx, hb, hml, hown, hts, hK, hEX, hA, hAA, hlk, hRm, hrt, hnm⟩ := X
  have hRm : R = rm := hRm
  subst hRm
  intro H locs ls hP hD hS hl
  refine va_newa (atype := .int) (ty := .int) (N' := N') (a0 := (N', .inl (fun _ => 0))) hx hb (hts _ harr) rfl hK hP hD hS hA (fun _ => rfl) hn hN (by show N' * 4 ≤ _; omega) hcells hslots hdg (fun q cA H1 hK1 hP1 hD1 hS1 => ?_)
  have hc : cA = c 0 := ct_ty (i := 0) hK hK1 rfl
  subst hc
  rw [wl_push] at hP1 hD1
  exact kk q H1 locs ls hP1 hD1 hS1 hl
theorem ct_newq (X : ct_X Γ D c A0 A cc nL own Ts rm) {z : Int32} (C : String) (i N' : Nat) {index : Nat} (hlink : Cond.classLink own index C ∈ Ts) (hover : ∀ U, ct_EX A0 U → va_AO C U) (hty : (tyL c)[i]? = some (c i, .object C)) (hn : ¬ z < 0) (hN : z.toNatClampNeg = N') (hb4 : N' ≤ 100000) (hcells : kc + 1 ≤ rm.cells) (hslots : ks + N' ≤ rm.slots) (hdg : decode cc pc = .ok (.anewarray index, 3)) (kk : ∀ q : Nat, ct_W Γ D A nL Q (kc + 1) (ks + N') (n + 1) (gu g n (q, .inl (c i, N', .inr (.inr (.inr (.inr (fun _ => none))))))) (pc + 3) lv (.ref q :: rest)) : ct_W Γ D A nL Q kc ks n g pc lv (.int z :: rest) := by
  obtain ⟨p, l, e, R, s, m, args, below, meth, co⟩ := Γ
  obtain ⟨hx, hb, hml, hown, hts, hK, hEX, hA, hAA, hlk, hRm, hrt, hnm⟩ := X
  have hRm : R = rm := hRm
  subst hRm
  intro H locs ls hP hD hS hl
  refine va_newq (N' := N') hx hb hown (hts _ hlink) (hover _ hEX) hK hP hD hS hA hn hN (by omega) hcells hslots hdg (fun q cA H1 hK1 hP1 hD1 hS1 => ?_)
  have hc : cA = c i := ct_ty (i := i) hK hK1 hty
  subst hc
  rw [wl_push] at hP1 hD1
  exact kk q H1 locs ls hP1 hD1 hS1 hl
theorem ct_new (X : ct_X Γ D c A0 A cc nL own Ts rm) (ci : Nat) {C : String} {T : u_T} {N index : Nat} (fs : List Value) (hc : vwCl[ci]? = some (C, T, N)) (hin : ∀ w ∈ u_ws C T N, w ∈ Ts) (ty : Nat → FieldType) (hty : ∀ k, k < N → parseFieldDescriptor (T k).2.2.1 = some (ty k)) (hcl : Cond.classLink own index C ∈ Ts) (hinst : Cond.instantiable C N ∈ Ts) (hini : Cond.initialized C ∈ Ts) (hfs : ∀ j, j < N → defaultValue (ty j) = vp_V fs j) (hcells : kc + 1 ≤ rm.cells) (hslots : ks + N ≤ rm.slots) (hdg : decode cc pc = .ok (.new index, 3)) (kk : ∀ q : Nat, ct_W Γ D A nL Q (kc + 1) (ks + N) (n + 1) (gu g n (q, .inr (ci, fs))) (pc + 3) lv (.ref q :: rest)) : ct_W Γ D A nL Q kc ks n g pc lv rest := by
  obtain ⟨p, l, e, R, s, m, args, below, meth, co⟩ := Γ
  obtain ⟨hx, hb, hml, hown, hts, hK, hEX, hA, hAA, hlk, hRm, hrt, hnm⟩ := X
  have hRm : R = rm := hRm
  subst hRm
  intro H locs ls hP hD hS hl
  refine va_new hx hb hts hin ty hty hown (hts _ hcl) (hts _ hinst) (hts _ hini) hK hP hD hS hA hc hfs hcells hslots hdg (fun q H1 hP1 hD1 hS1 => ?_)
  rw [wl_push] at hP1 hD1
  exact kk q H1 locs ls hP1 hD1 hS1 hl
theorem ct_putF (X : ct_X Γ D c A0 A cc nL own Ts rm) (q0 : Nat) {a ci : Nat} {fs : List Value} {v : Value} (hq : q0 < n) (hg : g q0 = (a, .inr (ci, fs))) {T : u_T} {N index : Nat} (hc : vwCl[ci]? = some (own, T, N)) (hin : ∀ w ∈ u_ws own T N, w ∈ Ts) (ty0 : Nat → FieldType) (hty : ∀ k, k < N → parseFieldDescriptor (T k).2.2.1 = some (ty0 k)) (hnm : ∀ a, a < N → ∀ b, b < N → a ≠ b → (T a).2.1 ≠ (T b).2.1) (k : Nat) (hk : k < N) (hlink : Cond.fieldLink own index (T k).1 (T k).2.1 (T k).2.2.1 ∈ Ts) (hfin : (T k).2.2.2 = true) (hdecl : (T k).1 = own) (hn : narrow (ty0 k) v = v) (hfit : fits (ty0 k) v = true) (hl9 : k < fs.length) (hdg : decode cc pc = .ok (.putfield index, 3)) (kk : ct_W Γ D A nL Q kc ks n (gu g q0 (a, .inr (ci, fs.set k v))) (pc + 3) lv rest) (hnl : own ≠ RL := by decide +kernel) : ct_W Γ D A nL Q kc ks n g pc lv (v :: .ref a :: rest) := by
  obtain ⟨p, l, e, R, s, m, args, below, meth, co⟩ := Γ
  obtain ⟨hx, hb, hml, hown, hts, hK, hEX, hA, hAA, hlk, hRm, hrt, hinit⟩ := X
  intro H locs ls hP hD hS hl
  refine va_putF hx hb hts hin ty0 hty hnm hown hK hP hD hS q0 ((wl_at hq).trans (congrArg some hg)) hc k hk (hts _ hlink) (fun _ h9 => h9) hfin (hinit hnl) hdecl (hty k hk) hn hfit hl9 hdg (fun H1 locs1 hP1 hD1 hS1 => ?_)
  rw [wl_set hq] at hP1 hD1
  exact kk H1 locs1 ls hP1 hD1 hS1 hl
theorem ct_put (X : ct_X Γ D c A0 A cc nL own Ts rm) (q0 : Nat) {a ci : Nat} {fs : List Value} {v : Value} (hq : q0 < n) (hg : g q0 = (a, .inr (ci, fs))) {C : String} {T : u_T} {N index : Nat} (hc : vwCl[ci]? = some (C, T, N)) (hin : ∀ w ∈ u_ws C T N, w ∈ Ts) (ty0 : Nat → FieldType) (hty : ∀ k, k < N → parseFieldDescriptor (T k).2.2.1 = some (ty0 k)) (hnm : ∀ a, a < N → ∀ b, b < N → a ≠ b → (T a).2.1 ≠ (T b).2.1) (k : Nat) (hk : k < N) (hlink : Cond.fieldLink own index (T k).1 (T k).2.1 (T k).2.2.1 ∈ Ts) (hfin : (T k).2.2.2 = false) (hn : narrow (ty0 k) v = v) (hfit : fits (ty0 k) v = true) (hl9 : k < fs.length) (hdg : decode cc pc = .ok (.putfield index, 3)) (kk : ct_W Γ D A nL Q kc ks n (gu g q0 (a, .inr (ci, fs.set k v))) (pc + 3) lv rest) : ct_W Γ D A nL Q kc ks n g pc lv (v :: .ref a :: rest) := by
  obtain ⟨p, l, e, R, s, m, args, below, meth, co⟩ := Γ
  obtain ⟨hx, hb, hml, hown, hts, hK, hEX, hA, hAA, hlk, hRm, hrt, hinit⟩ := X
  intro H locs ls hP hD hS hl
  refine va_put hx hb hts hin ty0 hty hnm hown hK hP hD hS q0 ((wl_at hq).trans (congrArg some hg)) hc k hk (hts _ hlink) (fun _ h9 => h9) hfin (hty k hk) hn hfit hl9 hdg (fun H1 locs1 hP1 hD1 hS1 => ?_)
  rw [wl_set hq] at hP1 hD1
  exact kk H1 locs1 ls hP1 hD1 hS1 hl
theorem ct_get (X : ct_X Γ D c A0 A cc nL own Ts rm) (q0 : Nat) {a ci : Nat} {fs : List Value} {v : Value} (hq : q0 < n) (hg : g q0 = (a, .inr (ci, fs))) {C : String} {T : u_T} {N index : Nat} (hc : vwCl[ci]? = some (C, T, N)) (hin : ∀ w ∈ u_ws C T N, w ∈ Ts) (k : Nat) (hk : k < N) (hlink : Cond.fieldLink own index (T k).1 (T k).2.1 (T k).2.2.1 ∈ Ts) (hv : fs[k]? = some v) (hdg : decode cc pc = .ok (.getfield index, 3)) (kk : ct_W Γ D A nL Q kc ks n g (pc + 3) lv (v :: rest)) : ct_W Γ D A nL Q kc ks n g pc lv (.ref a :: rest) := by
  obtain ⟨p, l, e, R, s, m, args, below, meth, co⟩ := Γ
  obtain ⟨hx, hb, hml, hown, hts, hK, hEX, hA, hAA, hlk, hRm, hrt, hinit⟩ := X
  intro H locs ls hP hD hS hl
  exact va_get hx hb hts hin hown hK hP q0 ((wl_at hq).trans (congrArg some hg)) hc k hk (hts _ hlink) (fun _ h9 => h9) hv hdg (kk H locs ls hP hD hS hl)
theorem ct_astq (X : ct_X Γ D c A0 A cc nL own Ts rm) (q0 t0 qk ci : Nat) {a v N' : Nat} {i : Int32} {r : vw_C} {vs : List Value} {f : Nat → Option Nat} (hq : q0 < n) (hqk : qk < n) (hg : g q0 = (a, .inl (c t0, N', .inr (.inr (.inr (.inr f)))))) (ht : (tyL c)[t0]? = some (c t0, .object r.1)) (hv : g qk = (v, .inr (ci, vs))) (hc : vwCl[ci]? = some r) (hi : vp_in i N') (hdg : decode cc pc = .ok (.aastore, 1)) (kk : ct_W Γ D A nL Q kc ks n (gu g q0 (a, .inl (c t0, N', .inr (.inr (.inr (.inr (va_up f i.toNatClampNeg (some v)))))))) (pc + 1) lv rest) : ct_W Γ D A nL Q kc ks n g pc lv (.ref v :: .int i :: .ref a :: rest) := by
  obtain ⟨p, l, e, R, s, m, args, below, meth, co⟩ := Γ
  obtain ⟨hx, hb, hml, hown, hts, hK, hEX, hA, hAA, hlk, hRm, hrt, hinit⟩ := X
  intro H locs ls hP hD hS hl
  refine va_astq hx hb hK hP hD hS q0 t0 qk ci ((wl_at hq).trans (congrArg some hg)) ht ((wl_at hqk).trans (congrArg some hv)) hc hi hdg (fun H1 locs1 hP1 hD1 hS1 => ?_)
  rw [wl_set hq] at hP1 hD1
  exact kk H1 locs1 ls hP1 hD1 hS1 hl
theorem ct_iast (X : ct_X Γ D c A0 A cc nL own Ts rm) (q0 : Nat) {a N' : Nat} {i v : Int32} {f : Nat → Int32} (hq : q0 < n) (hg : g q0 = (a, .inl (c 0, N', .inl f))) (hi : vp_in i N') (hdg : decode cc pc = .ok (.iastore, 1)) (kk : ct_W Γ D A nL Q kc ks n (gu g q0 (a, .inl (c 0, N', .inl (upd f i.toNatClampNeg v)))) (pc + 1) lv rest) : ct_W Γ D A nL Q kc ks n g pc lv (.int v :: .int i :: .ref a :: rest) := by
  obtain ⟨p, l, e, R, s, m, args, below, meth, co⟩ := Γ
  obtain ⟨hx, hb, hml, hown, hts, hK, hEX, hA, hAA, hlk, hRm, hrt, hinit⟩ := X
  intro H locs ls hP hD hS hl
  refine va_iast hx hb hK hP hD hS q0 0 ((wl_at hq).trans (congrArg some hg)) rfl hi hdg (fun H1 locs1 hP1 hD1 hS1 => ?_)
  rw [wl_set hq] at hP1 hD1
  exact kk H1 locs1 ls hP1 hD1 hS1 hl
/-- a row of ints that lies outside is copied into one of ours -/
theorem ct_cpW {p : Program} {l : Launch} {e : Env} {R : Room} {s : State} {m : MethodId} {args : Array Value} {below : List Frame} {meth : Method} {co : Code} {H : Heap} {locs : List Loc} {cells slots : Nat} {Q : State → Prop} {ls : Array Slot} {cl : List vw_C} {tys : List (ClassId × FieldType)} {ws : va_W} {a : Nat}
    (hx : p.tables.exec = Jvm.exec) (hb : co.code = cc) (hml : co.maxLocals = ls.size) {index : Nat} (hown : s.vm.findClass own = some m.cls) (hlink : (Cond.methodLink own index arraycopyName).before args s = true) (hnat : (Cond.native arraycopyName).before args s = true) (hstat : (Cond.static arraycopyName).before args s = true) (hini : (Cond.initialized "java/lang/System").before args s = true)
    (hK : va_K D cl tys s) (hP : va_P D cl ws H) (hD : va_D A ws) (hS : va_S A s.heap H locs) {b n0 : Nat} {f : Nat → Int32} (hT : va_T .int b n0 (fun j => .int (f j)) A s s.heap) (q1 t1 : Nat) {cA : ClassId} {n1 : Nat} {h : Nat → Int32} (hq : ws[q1]? = some (a, .inl (cA, n1, .inl h))) (ht : tys[t1]? = some (cA, .int))
    {sp dp z : Int32} (h1 : ¬ sp < 0) (h2 : ¬ dp < 0) (h3 : ¬ z < 0) (h4 : sp.toNatClampNeg + z.toNatClampNeg ≤ n0) (h5 : dp.toNatClampNeg + z.toNatClampNeg ≤ n1) (hfr : 1 ≤ R.frames) (hlo : (rest.map fun v => v.category).sum + (nativeFrameWords "java/lang/System" "arraycopy" 5 + 11) ≤ R.locals) (hdg : decode cc pc = .ok (.invokestatic index, 3))
    (kk : ∀ (H1 : Heap) (locs1 : List Loc), va_P D cl (ws.set q1 (a, .inl (cA, n1, .inl (va_cpy f h sp.toNatClampNeg dp.toNatClampNeg z.toNatClampNeg)))) H1 → va_D A (ws.set q1 (a, .inl (cA, n1, .inl (va_cpy f h sp.toNatClampNeg dp.toNatClampNeg z.toNatClampNeg)))) → va_S A s.heap H1 locs1 → W p l e R s m args below meth co H1 locs1 cells slots Q (F0 m (pc + 3) ls rest)) : W p l e R s m args below meth co H locs cells slots Q (F0 m pc ls (.int z :: .int dp :: .ref a :: .int sp :: .ref b :: rest)) := by
  have hz : ∀ y : Int32, ¬ y < 0 → y.toInt = (y.toNatClampNeg : Int) := fun y hy => by
    have h9 : (0 : Int) ≤ y.toInt := by
      have := Int32.not_lt.mp hy
      simpa using Int32.le_iff_toInt_le.mp this
    show y.toInt = ((y.toInt.toNat : Nat) : Int)
    omega
  obtain ⟨src, e1, ⟨e2, ks, e3, cs, e4⟩, e5, e6, -, e7, e8⟩ := hT
  have g0 : H[b]? = some src := (hS.2.1 b (Array.getElem?_eq_some_iff.mp e1).1 e8).trans e1
  have g1 : H[a]? = some (vp_cell cA (n1, .inl h)) := hP q1 _ hq
  have hA : A a := hD.2 q1 _ hq
  obtain ⟨-, kd, g2, cd, g3⟩ := (hK.2 t1 _ ht).1 n1 (fun j => .int (h j))
  generalize hnew : vp_cell cA (n1, .inl (va_cpy f h sp.toNatClampNeg dp.toNatClampNeg z.toNatClampNeg)) = new
  intro T hTH X
  obtain ⟨vm', X', step⟩ := X.arraycopy hx hown hlink hnat hstat hini (src := b) (dst := a) (cs := src) (cd := vp_cell cA (n1, .inl h)) (srcPos := sp) (destPos := dp) (n := z) (by rw [hTH]; exact g0) (by rw [hTH]; exact g1) e2 (fun _ h => by cases h) e5 (fun h => by cases h) e3 g2 e4 g3 (by simp [refKind]) h1 h2 h3
    (by rw [hz sp h1, hz z h3]; omega)
    (by rw [hz dp h2, hz z h3]; show ¬ _ > ((arrV cA n1 (fun j => .int (h j))).slots.size : Int); rw [arrV_size]; omega)
    (fun _ _ i hi => by
      have h9 : src.slots.getD (sp.toNatClampNeg + i) .null = .int (f (sp.toNatClampNeg + i)) := by
        rw [Array.getD_eq_getD_getElem?, e7 _ (by omega)]
        rfl
      exact ⟨by rw [h9]; rfl, by rw [h9]; exact trivial⟩)
    (g := F0 m pc ls (.int z :: .int dp :: .ref a :: .int sp :: .ref b :: rest)) rfl (by rw [hml]) (rest := rest) rfl (by rw [hb]; exact hdg) hfr (by show 2 * 0 + _ + _ ≤ _; omega)
  have hcp : copied src (vp_cell cA (n1, .inl h)) sp dp z = new := (va_copiedX (fun y => .int y) src cA f h e7 h4).trans hnew
  rw [hcp] at X' step
  have hl : a < H.size := (Array.getElem?_eq_some_iff.mp g1).1
  have ho : ∀ q : Nat, q ≠ a → (H.setIfInBounds a new)[q]? = H[q]? := fun q hqa => by simp [Array.getElem?_setIfInBounds, Ne.symm hqa]
  have hh : ((T.setVm vm').setCell a new).heap = H.setIfInBounds a new := by rw [← hTH]; rfl
  obtain ⟨t, r1, r2⟩ := kk (H.setIfInBounds a new) _ (hP.set hD hq (show (H.setIfInBounds a new)[a]? = some _ by rw [hnew]; simp [Array.getElem?_setIfInBounds, hl]) ho) (hD.set hq) ⟨by simp; exact hS.1, fun q y1 y2 => (ho q (fun h => y2 (h ▸ hA))).trans (hS.2.1 q y1 y2), fun q hqm => by
    rcases List.mem_append.mp hqm with h9 | h9
    · exact hS.2.2 q h9
    · obtain ⟨y, -, hy⟩ := List.mem_map.mp h9
      rw [← hy]
      exact hA⟩ _ hh X'
  exact ⟨t, step t r1, r2⟩
theorem ct_astore (X : ct_X Γ D c A0 A cc nL own Ts rm) (lv' : List (Nat × Value)) {k : Fin 4} {i x : Nat} (hi : (k : Nat) = i) (hn : i < nL) (hl' : (i, Value.ref x) :: lv.filter (fun q => !(q.1 == i) && !(q.1 + 1 == i && q.2.category == 2)) = lv') (hdg : decode cc pc = .ok (.astore_n k, 1)) (kk : ct_W Γ D A nL Q kc ks n g (pc + 1) lv' rest) : ct_W Γ D A nL Q kc ks n g pc lv (.ref x :: rest) := by
  obtain ⟨p, l, e, R, s, m, args, below, meth, co⟩ := Γ
  obtain ⟨hx, hb, -⟩ := X
  intro H locs ls hP hD hS hl
  exact lv_astore_n hx hb hdg hi hl hn hl' (fun ls' h => kk H locs ls' hP hD hS h)
theorem ct_istore2 (X : ct_X Γ D c A0 A cc nL own Ts rm) (lv' : List (Nat × Value)) {i : Nat} {x : Int32} (hn : i < nL) (hl' : (i, Value.int x) :: lv.filter (fun q => !(q.1 == i) && !(q.1 + 1 == i && q.2.category == 2)) = lv') (hdg : decode cc pc = .ok (.istore i, 2)) (kk : ct_W Γ D A nL Q kc ks n g (pc + 2) lv' rest) : ct_W Γ D A nL Q kc ks n g pc lv (.int x :: rest) := by
  obtain ⟨p, l, e, R, s, m, args, below, meth, co⟩ := Γ
  obtain ⟨hx, hb, -⟩ := X
  intro H locs ls hP hD hS hl
  exact lv_istore hx hb hdg hl hn hl' (fun ls' h => kk H locs ls' hP hD hS h)
/-- the settings at first, copied out of the class's static array -/
theorem ct_first (X : ct_X Γ D c A0 A cc nL RX2 Ts rm) (hdg : decode cc pc = .ok (.getstatic 67, 3)) (kk : ∀ b : Nat, va_T .int b 7 (fun j => .int (cr_c0 j)) A0 Γ.2.2.2.2.1 Γ.2.2.2.2.1.heap → ct_W Γ D A nL Q kc ks n g (pc + 3) lv (.ref b :: rest)) : ct_W Γ D A nL Q kc ks n g pc lv rest := by
  obtain ⟨p, l, e, R, s, m, args, below, meth, co⟩ := Γ
  obtain ⟨hx, hb, hml, hown, hts, hK, hEX, hA, hAA, hlk, hRm, hrt, hinit⟩ := X
  obtain ⟨-, hnw, -, -, b, hZ, hXb⟩ := hEX
  intro H locs ls hP hD hS hl
  have hZ' : va_Z "CraneCampaign" "SETTING_AT_FIRST" "[I" (.ref b) A s s.heap := by
    obtain ⟨cf, kf, fi, f, a, cell, h1, h2, h3, h4, h5, h6, h7, h8⟩ := hZ
    exact ⟨cf, kf, fi, f, a, cell, h1, h2, h3, h4, h5, h6, h7, fun h => h8 (hAA _ h)⟩
  exact va_getsN hx hb hZ' hS hown (va_Nw.use rfl hnw) (fun _ h9 => h9) hdg (kk b hXb H locs ls hP hD hS hl)
theorem ct_copyx (X : ct_X Γ D c A0 A cc nL own Ts rm) (q1 : Nat) {a b n0 n1 : Nat} {f h : Nat → Int32} (hq : q1 < n) (hg : g q1 = (a, .inl (c 0, n1, .inl h))) (hXb : va_T .int b n0 (fun j => .int (f j)) A0 Γ.2.2.2.2.1 Γ.2.2.2.2.1.heap) {sp dp z : Int32} (h1 : ¬ sp < 0) (h2 : ¬ dp < 0) (h3 : ¬ z < 0) (h4 : sp.toNatClampNeg + z.toNatClampNeg ≤ n0) (h5 : dp.toNatClampNeg + z.toNatClampNeg ≤ n1) {index : Nat} (hlink : Cond.methodLink own index arraycopyName ∈ Ts) (hnat : Cond.native arraycopyName ∈ Ts) (hstat : Cond.static arraycopyName ∈ Ts) (hini : Cond.initialized "java/lang/System" ∈ Ts) (hfr : 1 ≤ rm.frames) (hlo : (rest.map fun v => v.category).sum + (nativeFrameWords "java/lang/System" "arraycopy" 5 + 11) ≤ rm.locals) (hdg : decode cc pc = .ok (.invokestatic index, 3)) (kk : ct_W Γ D A nL Q kc ks n (gu g q1 (a, .inl (c 0, n1, .inl (va_cpy f h sp.toNatClampNeg dp.toNatClampNeg z.toNatClampNeg)))) (pc + 3) lv rest) : ct_W Γ D A nL Q kc ks n g pc lv (.int z :: .int dp :: .ref a :: .int sp :: .ref b :: rest) := by
  obtain ⟨p, l, e, R, s, m, args, below, meth, co⟩ := Γ
  obtain ⟨hx, hb, hml, hown, hts, hK, hEX, hA, hAA, hlk, hRm, hrt, hinit⟩ := X
  have hRm : R = rm := hRm
  subst hRm
  intro H locs ls hP hD hS hl
  refine ct_cpW hx hb (hml.trans hl.1.symm) hown (hts _ hlink) (hts _ hnat) (hts _ hstat) (hts _ hini) hK hP hD hS (hXb.narrow hAA) q1 0 ((wl_at hq).trans (congrArg some hg)) rfl h1 h2 h3 h4 h5 hfr hlo hdg (fun H1 locs1 hP1 hD1 hS1 => ?_)
  rw [wl_set hq] at hP1 hD1
  exact kk H1 locs1 ls hP1 hD1 hS1 hl
/-- behind a constructor's call: its cells stand at its object's place and behind all others -/
def gj (g : Nat → Nat × va_E) (n i0 : Nat) (gc : Nat → Nat × va_E) : Nat → Nat × va_E := fun i => if i = i0 then gc 0 else if i < n then g i else gc (i - n + 1)
theorem ct_join {H H1 : Heap} {i0 m a : Nat} {x : va_E} {gc : Nat → Nat × va_E} (hP : va_P D vwCl (wl n g) H) (hD : va_D A (wl n g)) (hi : i0 < n) (hg : g i0 = (a, x)) (hm : 1 ≤ m) (hA : ∀ q, H.size ≤ q → A q) (hk : ∀ q : Nat, q < H.size → ¬ va_A [(a, x)] H.size q → H1[q]? = H[q]?) (h0 : (gc 0).1 = a) (hP1 : va_P D vwCl (wl m gc) H1) (hD1 : va_D (va_A [(a, x)] H.size) (wl m gc)) : va_P D vwCl (wl (n + (m - 1)) (gj g n i0 gc)) H1 ∧ va_D A (wl (n + (m - 1)) (gj g n i0 gc)) := by
  have hcal : ∀ j, 0 < j → j < m → H.size ≤ (gc j).1 := fun j j0 jm => by
    have h1 := hD1.2 j (gc j) (wl_at jm)
    rcases h1 with ⟨k, e, h1⟩ | h1
    · exfalso
      cases k with
      | zero =>
        have h2 : a = (gc j).1 := congrArg Prod.fst (Option.some.inj h1)
        have h3 := hD1.1 0 j (gc 0) (gc j) (wl_at hm) (wl_at jm) (h0.trans h2)
        omega
      | succ k => cases h1
    · exact h1
  have hold : ∀ i, i < n → i ≠ i0 → (g i).1 < H.size ∧ ¬ va_A [(a, x)] H.size (g i).1 := fun i h h' => by
    have hl := (hP i (g i) (wl_at h)).lt
    refine ⟨hl, fun hv => ?_⟩
    rcases hv with ⟨k, e, h1⟩ | h1
    · cases k with
      | zero =>
        have h2 : a = (g i).1 := congrArg Prod.fst (Option.some.inj h1)
        have h3 := hD.1 i0 i (g i0) (g i) (wl_at hi) (wl_at h) (by rw [hg]; exact h2)
        exact h' h3.symm
      | succ k => cases h1
    · omega
  have haA : A a := by
    have h1 := hD.2 i0 (g i0) (wl_at hi)
    rw [hg] at h1
    exact h1
  have hag : a < H.size := by
    have h1 := (hP i0 (g i0) (wl_at hi)).lt
    rw [hg] at h1
    exact h1
  refine ⟨fun k q hq => ?_, ⟨fun i j pq qq hpi hqj he => ?_, fun k q hq => ?_⟩⟩
  · obtain ⟨hk1, rfl⟩ := wl_some hq
    by_cases e : k = i0
    · have h1 : gj g n i0 gc k = gc 0 := if_pos e
      rw [h1]
      exact hP1 0 _ (wl_at hm)
    · by_cases e2 : k < n
      · have h1 : gj g n i0 gc k = g k := (if_neg e).trans (if_pos e2)
        rw [h1]
        exact (hP k _ (wl_at e2)).kept (hk _ (hold k e2 e).1 (hold k e2 e).2)
      · have h1 : gj g n i0 gc k = gc (k - n + 1) := (if_neg e).trans (if_neg e2)
        rw [h1]
        exact hP1 (k - n + 1) _ (wl_at (by omega))
  · obtain ⟨hi1, rfl⟩ := wl_some hpi
    obtain ⟨hj1, rfl⟩ := wl_some hqj
    have key : ∀ k, k < n + (m - 1) → ((k = i0 ∧ (gj g n i0 gc k).1 = a) ∨ (k ≠ i0 ∧ k < n ∧ gj g n i0 gc k = g k) ∨ (k ≠ i0 ∧ ¬ k < n ∧ gj g n i0 gc k = gc (k - n + 1))) := fun k hk9 => by
      by_cases e : k = i0
      · exact Or.inl ⟨e, by rw [show gj g n i0 gc k = gc 0 from if_pos e]; exact h0⟩
      · by_cases e2 : k < n
        · exact Or.inr (Or.inl ⟨e, e2, (if_neg e).trans (if_pos e2)⟩)
        · exact Or.inr (Or.inr ⟨e, e2, (if_neg e).trans (if_neg e2)⟩)
    rcases key i hi1 with ⟨x1, x2⟩ | ⟨x1, x2, x3⟩ | ⟨x1, x2, x3⟩ <;> rcases key j hj1 with ⟨y1, y2⟩ | ⟨y1, y2, y3⟩ | ⟨y1, y2, y3⟩
    · omega
    · exfalso
      rw [x2, y3] at he
      exact (hold j y2 y1).2 (Or.inl ⟨0, x, by rw [← he]; rfl⟩)
    · exfalso
      rw [x2, y3] at he
      have h1 := hcal (j - n + 1) (by omega) (by omega)
      omega
    · exfalso
      rw [y2, x3] at he
      exact (hold i x2 x1).2 (Or.inl ⟨0, x, by rw [he]; rfl⟩)
    · rw [x3, y3] at he
      exact hD.1 i j _ _ (wl_at x2) (wl_at y2) he
    · exfalso
      rw [x3, y3] at he
      have h1 := hcal (j - n + 1) (by omega) (by omega)
      have h2 := (hold i x2 x1).1
      omega
    · exfalso
      rw [y2, x3] at he
      have h1 := hcal (i - n + 1) (by omega) (by omega)
      omega
    · exfalso
      rw [x3, y3] at he
      have h1 := hcal (i - n + 1) (by omega) (by omega)
      have h2 := (hold j y2 y1).1
      omega
    · rw [x3, y3] at he
      have h1 := hD1.1 (i - n + 1) (j - n + 1) _ _ (wl_at (by omega)) (wl_at (by omega)) he
      omega
  · obtain ⟨hk1, rfl⟩ := wl_some hq
    by_cases e : k = i0
    · have h1 : gj g n i0 gc k = gc 0 := if_pos e
      rw [h1, h0]
      exact haA
    · by_cases e2 : k < n
      · have h1 : gj g n i0 gc k = g k := (if_neg e).trans (if_pos e2)
        rw [h1]
        exact hD.2 k _ (wl_at e2)
      · have h1 : gj g n i0 gc k = gc (k - n + 1) := (if_neg e).trans (if_neg e2)
        rw [h1]
        exact hA _ (hcal (k - n + 1) (by omega) (by omega))
theorem ct_went {x : va_E} {m mc ms i0 a : Nat} {spec : (Nat → Nat × va_E) → Prop} (X : ct_X Γ D c A0 A cc nL own Ts rm) (hi : i0 < n) (hg : g i0 = (a, x)) (hm : 1 ≤ m)
    (hrun : ∀ (H : Heap) (locs : List Loc) (ls : Array Slot), lv_has ls nL lv → PreS Γ.2.2.2.2.1 H (va_Pc [.ref a] (ct_Pc A0 D c a H.size x)) [.ref a] → va_Run Γ.1 Γ.2.1 Γ.2.2.1 Γ.2.2.2.1 Γ.2.2.2.2.1 Γ.2.2.2.2.2.1 Γ.2.2.2.2.2.2.1 Γ.2.2.2.2.2.2.2.1 Γ.2.2.2.2.2.2.2.2.1 Γ.2.2.2.2.2.2.2.2.2 H locs kc ks mc ms (F0 Γ.2.2.2.2.2.1 pc ls (.ref a :: rest)) rest (va_Qv (fun g => (g 0).1 = a ∧ spec g) (ct_B D (va_A [(a, x)] H.size) m) (va_A [(a, x)] H.size) [Value.ref a].toArray) (va_A [(a, x)] H.size))
    (kk : ∀ gc : Nat → Nat × va_E, (gc 0).1 = a → spec gc → ct_W Γ D A nL Q (kc + mc) (ks + ms) (n + (m - 1)) (gj g n i0 gc) (pc + 3) lv rest) : ct_W Γ D A nL Q kc ks n g pc lv (.ref a :: rest) := by
  obtain ⟨p, l, e, R, s, mm, args, below, meth, co⟩ := Γ
  obtain ⟨hx, hb, hml, hown, hts, hK, hEX, hA, hAA, hlk, hRm, hrt, hinit⟩ := X
  intro H locs ls hP hD hS hl
  have haA : A a := by
    have h1 := hD.2 i0 (g i0) (wl_at hi)
    rw [hg] at h1
    exact h1
  have hAH : ∀ q, H.size ≤ q → A q := fun q h => hA q (Nat.le_trans hS.1 h)
  have hFc : ∀ q, va_A [(a, x)] H.size q → A q := fun q h => by
    rcases h with ⟨k, e, h1⟩ | h1
    · cases k with
      | zero =>
        have h2 : a = q := congrArg Prod.fst (Option.some.inj h1)
        rw [← h2]
        exact haA
      | succ k => cases h1
    · exact hAH q h1
  have hPc : va_P D vwCl [(a, x)] H := fun k q hq => by
    cases k with
    | zero =>
      have h2 : (a, x) = q := Option.some.inj hq
      rw [← h2, ← hg]
      exact hP i0 _ (wl_at hi)
    | succ k => cases hq
  refine va_callv (hrun H locs ls hl ⟨ct_blind A0 D c a H.size x [.ref a], fun U hU hW => ⟨rfl, by rw [hU], by rw [hU]; exact hPc, va_K.moved hW.alike hK, hEX.kept hW (by rw [hU]; exact hS.1) (fun q q1 q2 => by rw [hU]; exact hS.2.1 q q1 (fun h => q2 (hAA q h))), hAA a haA, fun q h => hAA q (hAH q h)⟩⟩) hS (fun q _ h => hFc q h) hFc (fun gc t H1 locs1 ht hvm h5 hB hz1 hk1 hS1 => ?_)
  obtain ⟨hP1, hD1⟩ := hB
  rw [ht] at hP1
  obtain ⟨hP2, hD2⟩ := ct_join hP hD hi hg hm hAH hk1 h5.1 hP1 hD1
  exact kk gc h5.1 h5.2 H1 locs1 ls hP2 hD2 hS1 hl
theorem ct_call {y : MethodName} {ws ws' : List Cond} {bytes : ByteArray} {maxL index : Nat} {rm' : Room} {x : va_E} (m mc ms i0 : Nat) {a : Nat} {spec : (Nat → Nat × va_E) → Prop} (X : ct_X Γ D c A0 A cc nL own Ts rm) (hM : ct_M Γ.2.1 A0 D c y ws rm' x m mc ms spec) (hi : i0 < n) (hg : g i0 = (a, x)) (hm : 1 ≤ m) (hG : GoodIn Ts ws) (hw : ws = Cond.code y bytes maxL none :: ws') (hrc : rm'.cells = mc) (hrs : rm'.slots = ms) (hini : Cond.initialized y.cls ∈ Ts) (hlink : Cond.methodLink own index y ∈ Ts) (hin : Cond.instanceMethod y ∈ Ts) (hy : y.name = "<init>")
    (hd : y.cls ≠ "java/lang/invoke/MethodHandle" ∧ y.cls ≠ "java/lang/invoke/VarHandle" ∧ (parseMethodDescriptor y.desc).map (fun d => d.parameters.length) = some 0) (hR : rm'.frames + 1 ≤ rm.frames ∧ 8 + (maxL + 11) + rm'.locals ≤ rm.locals) (hkk : kc + mc ≤ rm.cells ∧ ks + ms ≤ rm.slots) (hrest : (rest.map fun v => v.category).sum ≤ 8) (hdg : decode cc pc = .ok (.invokespecial index, 3)) (kk : ∀ gc : Nat → Nat × va_E, (gc 0).1 = a → spec gc → ct_W Γ D A nL Q (kc + mc) (ks + ms) (n + (m - 1)) (gj g n i0 gc) (pc + 3) lv rest) : ct_W Γ D A nL Q kc ks n g pc lv (.ref a :: rest) := by
  refine ct_went X hi hg hm (fun H locs ls hl hp => ?_) kk
  obtain ⟨p, l, e, R, s, mm, args, below, meth, co⟩ := Γ
  obtain ⟨hx, hb, hml, hown, hts, hK, hEX, hA, hAA, hlk, hRm, hrt, hinit⟩ := X
  have hRm : R = rm := hRm
  subst hRm
  exact va_runI (As := []) (rest := rest) ⟨hx, hb, hml, hown, hts⟩ (hM a H.size) (cwI 0 hts hG hw hrc hrs (hts _ hini) (hts _ hlink) (hts _ hin) hy hd hR) hp rfl rfl hl.1 rfl (lv_room hrest) hdg hkk
theorem ct_callN {y : MethodName} {ws ws' : List Cond} {bytes : ByteArray} {maxL index : Nat} {rm' : Room} {x : va_E} (m mc ms i0 : Nat) {a : Nat} {spec : (Nat → Nat × va_E) → Prop} (X : ct_X Γ D c A0 A cc nL own Ts rm) (hM : ct_M Γ.2.1 A0 D c y ws rm' x m mc ms spec) (hi : i0 < n) (hg : g i0 = (a, x)) (hm : 1 ≤ m) (hG : GoodIn Ts ws) (hw : ws = Cond.code y bytes maxL none :: ws') (hrc : rm'.cells = mc) (hrs : rm'.slots = ms) (hini : Cond.initialized y.cls ∈ Ts) (hnw : (own, index, y) ∈ ct_nwM) (hin : Cond.instanceMethod y ∈ Ts) (hy : y.name = "<init>")
    (hd : y.cls ≠ "java/lang/invoke/MethodHandle" ∧ y.cls ≠ "java/lang/invoke/VarHandle" ∧ (parseMethodDescriptor y.desc).map (fun d => d.parameters.length) = some 0) (hR : rm'.frames + 1 ≤ rm.frames ∧ 8 + (maxL + 11) + rm'.locals ≤ rm.locals) (hkk : kc + mc ≤ rm.cells ∧ ks + ms ≤ rm.slots) (hrest : (rest.map fun v => v.category).sum ≤ 8) (hdg : decode cc pc = .ok (.invokespecial index, 3)) (kk : ∀ gc : Nat → Nat × va_E, (gc 0).1 = a → spec gc → ct_W Γ D A nL Q (kc + mc) (ks + ms) (n + (m - 1)) (gj g n i0 gc) (pc + 3) lv rest) : ct_W Γ D A nL Q kc ks n g pc lv (.ref a :: rest) := by
  refine ct_went X hi hg hm (fun H locs ls hl hp => ?_) kk
  obtain ⟨p, l, e, R, s, mm, args, below, meth, co⟩ := Γ
  obtain ⟨hx, hb, hml, hown, hts, hK, hEX, hA, hAA, hlk, hRm, hrt, hinit⟩ := X
  have hRm : R = rm := hRm
  subst hRm
  exact va_runIN (As := []) (rest := rest) ⟨hx, hb, hml, hown, hts⟩ (hM a H.size) ⟨va_cnB (host := "CraneCampaign") 0 hts hG hw hrc hrs (hEX.1 _ hnw) (hts _ hini) hd hR, hy, hts _ hin⟩ hp rfl rfl hl.1 rfl (lv_room hrest) hdg hkk
/-- a constructor's end -/
theorem ct_ret (X : ct_X Γ D c A0 A cc nL own Ts rm) {post : (Nat → Nat × va_E) → Prop} (hp : post g) (hdg : decode cc pc = .ok (.return_, 1)) (hnl : own ≠ RL := by decide +kernel) : ct_W Γ D A nL (MQ Γ.2.2.2.2.2.2.2.1 (va_Qv post (ct_B D A n) A) Γ.2.2.2.2.2.2.1 Γ.2.2.2.2.1 kc ks A) kc ks n g pc lv [] := by
  obtain ⟨p, l, e, R, s, m, args, below, meth, co⟩ := Γ
  obtain ⟨hx, hb, hml, hown, hts, hK, hEX, hA, hAA, hlk, hRm, hrt, hinit⟩ := X
  intro H locs ls hP hD hS hl
  exact W.vret hx hb (hrt hnl) (fun t ht hWm => ⟨⟨g, rfl, hp, by rw [ht]; exact hP, hD⟩, hS.F ht⟩) (fun q hq => hS.2.2 q hq) hdg hlk
theorem ct_widen {st : List Value} (k1 n1 : Nat) (h1 : kc ≤ k1) (h2 : ks ≤ n1) (kk : ct_W Γ D A nL Q k1 n1 n g pc lv st) : ct_W Γ D A nL Q kc ks n g pc lv st :=
  fun H locs ls hP hD hS hl => W.widen h1 h2 (kk H locs ls hP hD hS hl)
theorem ct_ext {st : List Value} {g' : Nat → Nat × va_E} (h : ∀ i, i < n → g' i = g i) (kk : ct_W Γ D A nL Q kc ks n g' pc lv st) : ct_W Γ D A nL Q kc ks n g pc lv st := by
  have e : wl n g = wl n g' := by
    apply List.ext_getElem?
    intro k
    by_cases ek : k < n
    · rw [wl_at ek, wl_at ek, h k ek]
    · rw [List.getElem?_eq_none (by rw [wl_len]; omega), List.getElem?_eq_none (by rw [wl_len]; omega)]
  intro H locs ls hP hD hS hl
  rw [e] at hP hD
  exact kk H locs ls hP hD hS hl
theorem ct_enter {l : Launch} {y : MethodName} {ws' : List Cond} {x : va_E} {mc ms : Nat} {spec : (Nat → Nat × va_E) → Prop} (hy : plainName y.cls = true) (hin : y.name = "<init>") (hw : Ts = Cond.code y cc nL none :: ws') (hlen : 1 ≤ nL)
    (hB : ∀ (Γ : cr_C) (h0 : Nat) (A : Nat → Prop), Γ.2.1 = l → ct_X Γ D c A0 A cc nL y.cls Ts rm → ct_W Γ D A nL (MQ Γ.2.2.2.2.2.2.2.1 (va_Qv (fun g => (g 0).1 = h0 ∧ spec g) (ct_B D A n) A) Γ.2.2.2.2.2.2.1 Γ.2.2.2.2.1 mc ms A) 0 0 1 (fun _ => (h0, x)) 0 [(0, .ref h0)] []) : ct_M l A0 D c y Ts rm x n mc ms spec := by
  intro h0 sz
  refine Met.ofW (cc := cc) (maxL := nL) (ret := none) hy hw ?_
  intro p e s m args below meth co s₁ B hml hv
  obtain ⟨rfl, hsz, hP, hK, hEX, hA1, hA2⟩ := hv
  subst hsz
  have hl := lv_entry [Value.ref h0] (n := nL) hlen
  rw [lg_entry_eq]
  have hAA : ∀ q, va_A [(h0, x)] s.heap.size q → A0 q := fun q h => by
    rcases h with ⟨k, e, h1⟩ | h1
    · cases k with
      | zero =>
        have h2 : h0 = q := congrArg Prod.fst (Option.some.inj h1)
        rw [← h2]
        exact hA1
      | succ k => cases h1
    · exact hA2 q h1
  have hwl : wl 1 (fun _ => (h0, x)) = [(h0, x)] := rfl
  refine hB (p, l, e, _, s, m, _, below, meth, co) h0 (va_A [(h0, x)] s.heap.size) rfl ⟨B.exec, B.bytes, hml, findClass_of_methodNamed B.named, atoms_spec (ws := Ts) B.pre, hK, hEX, fun q h => Or.inr h, hAA, B.notSynchronized, rfl, fun _ => B.returns, fun _ => (name_of_methodNamed B.named B.method).1.trans hin⟩ s.heap [] _ ?_ ?_ va_S.rf hl
  · rw [hwl]; exact hP
  · rw [hwl]
    refine ⟨fun i j pq qq h1 h2 _ => ?_, fun k q h1 => ⟨k, q.2, h1⟩ |> Or.inl⟩
    cases i with
    | zero =>
      cases j with
      | zero => rfl
      | succ j => cases h2
    | succ i => cases h1
end CT
