/-! ### from the law's entry to its loop, and on to its end -/
set_option maxHeartbeats 4000000 in
set_option maxRecDepth 100000 in
theorem whole_start {p : Program} {e : Env} {s : State} {m : MethodId} {below : List Frame} {meth : Method} {c : Code} (l : Launch) (hflags : l.flags = flags0) {b L : Nat} {xs : Nat → Int32} (hL : L ≤ 2048) (C0 : lw_At p s m meth c b L xs) : W p l e room_1 s m #[Value.ref b] below meth c s.heap [] 0 0 (lw_Z below #[Value.ref b] s) (entryFrame m ([Value.ref b] : List Value).toArray 9) := by
  obtain ⟨hx, hb, hr, hml, hown, hts, hX, hbl, hlocks, hgv⟩ := C0
  have hN := st_R hgv
  have hw : ∀ w ∈ wsL_law, w.before #[Value.ref b] s = true := fun w h => hts w (lw_words w h)
  obtain ⟨A, hAdef⟩ : ∃ A : Nat → Prop, A = fun q : Nat => s.heap.size ≤ q := ⟨_, rfl⟩
  have hA1 : ∀ q : Nat, s.heap.size ≤ q → A q := fun q h => by rw [hAdef]; exact h
  have hA0 : ∀ a : Nat, a < s.heap.size → ¬ A a := fun a h1 h2 => by
    rw [hAdef] at h2
    exact absurd h2 (Nat.not_le.mpr h1)
  have hA2 : ∀ q : Nat, A q → s.heap.size ≤ q := fun q h => by
    rw [hAdef] at h
    exact h
  have hst : l.stackTraces = false := by
    unfold Launch.stackTraces
    rw [hflags]
    decide +kernel
  obtain ⟨D, cA, hK⟩ := st_K hw (hts _ st_t217) (hts _ st_t36)
  have X : ct_X (p, l, e, room_1, s, m, #[Value.ref b], below, meth, c) D cA A A cL_law 9 RL wsL_law room_1 := ⟨hx, hb, hml, hown, hw, hK, st_EX hts hN A hA0, hA1, fun q h => h, hlocks, rfl, fun h => absurd rfl h, fun h => absurd rfl h⟩
  have hl := lv_entry ([.ref b]) (n := 9) (Nat.le_of_ble_eq_true rfl)
  rw [lg_entry_eq]
  have hl : lv_has _ 9 [(0, .ref b)] := hl
  refine (?_ : ct_W (p, l, e, room_1, s, m, #[Value.ref b], below, meth, c) D A 9 (lw_Z below #[Value.ref b] s) 0 0 0 (fun _ => (0, .inr (0, []))) 0 [(0, .ref b)] []) s.heap [] _ (fun k q h => absurd h (by simp [wl])) ⟨fun i j p q h => absurd h (by simp [wl]), fun k q h => absurd h (by simp [wl])⟩ va_S.rf hl
  clear hl
  refine ct_new X 8 [.null, .null, .null, .int 0, .int 0, .null] rfl inlX8 tyX8 tyX8_ok (List.mem_of_getElem? (i := 0) (by rfl)) (List.mem_of_getElem? (i := 1) (by rfl)) (List.mem_of_getElem? (i := 2) (by rfl)) zz_X8 (Nat.le_of_ble_eq_true rfl) (Nat.le_of_ble_eq_true rfl) dL_law_0 (fun q0 => ?_)
  refine ct_dup X dL_law_3 ?_
  refine ct_call 204 203 1724 0 X (c_X8_init l A D cA) (by decide) rfl (by decide) gL_law_X8_init rfl rfl rfl (List.mem_of_getElem? (i := 2) (by rfl)) (List.mem_of_getElem? (i := 7) (by rfl)) (List.mem_of_getElem? (i := 8) (by rfl)) rfl (by decide +kernel) ⟨Nat.le_of_ble_eq_true rfl, Nat.le_of_ble_eq_true rfl⟩ ⟨Nat.le_of_ble_eq_true rfl, Nat.le_of_ble_eq_true rfl⟩ (Nat.le_of_ble_eq_true rfl) dL_law_4 (fun gc hgc hsp => ?_)
  subst hgc
  refine ct_astore X [(1, .ref (gc 0).1), (0, .ref b)] (k := 1) (i := 1) rfl (by decide) rfl dL_law_7 ?_
  refine ct_new X 9 [.null, .null, .null, .null, .null, .int 0, .int 0, .int 0, .long 0, .int 0, .int 0, .int 0, .int 0, .int 0, .null] rfl inlX9 tyX9 tyX9_ok (List.mem_of_getElem? (i := 3) (by rfl)) (List.mem_of_getElem? (i := 4) (by rfl)) (List.mem_of_getElem? (i := 5) (by rfl)) zz_X9 (Nat.le_of_ble_eq_true rfl) (Nat.le_of_ble_eq_true rfl) dL_law_8 (fun q9 => ?_)
  refine ct_dup X dL_law_11 ?_
  refine ct_call 7 6 1590 204 X (c_X9_init l A D cA) (by decide) rfl (by decide) gL_law_X9_init rfl rfl rfl (List.mem_of_getElem? (i := 5) (by rfl)) (List.mem_of_getElem? (i := 100) (by rfl)) (List.mem_of_getElem? (i := 101) (by rfl)) rfl (by decide +kernel) ⟨Nat.le_of_ble_eq_true rfl, Nat.le_of_ble_eq_true rfl⟩ ⟨Nat.le_of_ble_eq_true rfl, Nat.le_of_ble_eq_true rfl⟩ (Nat.le_of_ble_eq_true rfl) dL_law_12 (fun g9 hg9 hs9 => ?_)
  subst hg9
  refine ct_astore X [(2, .ref (g9 0).1), (1, .ref (gc 0).1), (0, .ref b)] (k := 2) (i := 2) rfl (by decide) rfl dL_law_15 ?_
  refine ct_iconst X (1 : Int32) (by decide) dL_law_16 ?_
  refine ct_newl X 1 (List.mem_of_getElem? (i := 6) (by rfl)) (by decide) (by decide) (by decide) (Nat.le_of_ble_eq_true rfl) (Nat.le_of_ble_eq_true rfl) dL_law_17 (fun qo => ?_)
  refine ct_astore X [(3, .ref qo), (2, .ref (g9 0).1), (1, .ref (gc 0).1), (0, .ref b)] (k := 3) (i := 3) rfl (by decide) rfl dL_law_19 ?_
  refine ct_iconst X (nI (4 * 0)) (by decide) dL_law_20 ?_
  refine ct_istore2 X [(4, .int (nI (4 * 0))), (3, .ref qo), (2, .ref (g9 0).1), (1, .ref (gc 0).1), (0, .ref b)] (i := 4) (by decide) rfl dL_law_21 ?_
  refine ct_gen (fun g hg => ?_)
  obtain ⟨u, hu, h80, h81, h82, h83⟩ := hsp
  have hG : st_G cA u gc g9 g qo := ⟨hu, h80, h81, h82, h83, hs9, fun i hi => by rw [hg]; exact st_g1 _ gc g9 _ _ _ hi, fun k hk => by rw [hg]; exact st_g2 _ gc g9 _ _ _ hk, by rw [hg]; exact gu_eq⟩
  have e8 : (gc 0).1 = u 8 0 := by rw [h80]
  intro H locs ls hP hD hS hl
  have hP : va_P D vwCl (wl 212 g) H := hP
  have hD : va_D A (wl 212 g) := hD
  rw [e8] at hl
  have hEK : cr_EK (D, plc u (fun k => (g9 k).1) qo, A, cA) := st_EK hG hD
  have X2 : cr_X (p, l, e, room_1, s, m, #[Value.ref b], below, meth, c) (D, plc u (fun k => (g9 k).1) qo, A, cA) cL_law 9 RL wsL_law room_1 (some .boolean) := ⟨hx, hb, hml, hown, hw, hK, hEK, st_SF hts hN (D, plc u (fun k => (g9 k).1) qo, A, cA) hA0, hlocks, rfl, hr⟩
  have hend : ∀ (kc ks : Nat) (S : cr_S) (lv : List (Nat × Value)), kc ≤ 601024 → ks ≤ 7293034 → cr_P (p, l, e, room_1, s, m, #[Value.ref b], below, meth, c) (D, plc u (fun k => (g9 k).1) qo, A, cA) 9 (fun (_ : Unit) (Q : State → Prop) => Q = lw_Z below #[Value.ref b] s) kc ks S 1557 lv [.int (1 : Int32)] (some ()) := by
    intro kc ks S lv h1 h2 Q a g1 g2 H locs ls hW hS hls
    have g2 : Q = lw_Z below #[Value.ref b] s := g2
    subst g2
    exact W.widen h1 h2 (va_forget (fun q hq => hA2 _ (hS.2.2 q hq)) (W.base (lw_ret (Drawn.sameBut.refl s.drawn lw_cs) hx hb hr hlocks dL_law_1557)))
  have fin := b_L_law_23 X2 hst (st_NC hN) ⟨hX, hbl, hA0 b hbl⟩ hL hend 600 0 (nI (4 * 0)) S00 (by decide) rfl
  rw [w_loop w_749 w_762 w_1452 w_1495 w_1536 xs L hL 512 0 600 S00 rfl (by decide) (by decide) st_R0] at fin
  have k := fin (lw_Z below #[Value.ref b] s) () rfl rfl H locs ls (st_WH hG hP) hS (lv_sub hl [4, 3, 2, 1, 0] rfl)
  exact W.widen (Nat.le_of_ble_eq_true rfl) (Nat.le_of_ble_eq_true rfl) k
