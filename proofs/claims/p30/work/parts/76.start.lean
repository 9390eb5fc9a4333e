/-! ### from the law's entry to its loop, and on to its end -/
theorem k_l1 : Cond.classLink RL 39 RX8 ∈ wsL_law0 := (List.mem_of_getElem? (i := 0) (by rfl))
theorem k_l2 : Cond.initialized RX8 ∈ wsL_law0 := (List.mem_of_getElem? (i := 2) (by rfl))
theorem k_l3 : Cond.methodLink RL 149 yX8_init ∈ wsL_law0 := (List.mem_of_getElem? (i := 5) (by rfl))
theorem k_l4 : Cond.instanceMethod yX8_init ∈ wsL_law0 := (List.mem_of_getElem? (i := 6) (by rfl))

def qs (q2 q3 q4 q5 q6 q7 q8 : Nat) (k : Nat) : Nat := if k = 0 then q2 else if k = 1 then q3 else if k = 2 then q4 else if k = 3 then q5 else if k = 4 then q6 else if k = 5 then q7 else q8
set_option maxHeartbeats 4000000 in
set_option maxRecDepth 100000 in
theorem whole_start {p : Program} {e : Env} {s : State} {m : MethodId} {below : List Frame} {meth : Method} {c : Code} (l : Launch) (hflags : l.flags = flags0) {b L : Nat} {xs : Nat → Int32} (hL : L ≤ 260) (C0 : lw_At p s m meth c b L xs) : W p l e room_1 s m #[Value.ref b] below meth c s.heap [] 0 0 (lw_Z below #[Value.ref b] s) (entryFrame m ([Value.ref b] : List Value).toArray 13) := by
  obtain ⟨hx, hb, hr, hml, hown, hts, hX, hbl, hlocks, hgv⟩ := C0
  have hN := st_R hgv
  have hw : ∀ w ∈ wsL_law0, w.before #[Value.ref b] s = true := fun w h => hts w (lw_words w h)
  obtain ⟨A, hAdef⟩ : ∃ A : Nat → Prop, A = fun q : Nat => s.heap.size ≤ q := ⟨_, rfl⟩
  have hA1 : ∀ q : Nat, s.heap.size ≤ q → A q := fun q h => by rw [hAdef]; exact h
  have hA0 : ∀ a : Nat, a < s.heap.size → ¬ A a := fun a h1 h2 => by
    rw [hAdef] at h2
    exact absurd h2 (Nat.not_le.mpr h1)
  have hA2 : ∀ q : Nat, A q → s.heap.size ≤ q := fun q h => by
    rw [hAdef] at h
    exact h
  obtain ⟨D, cA, hK⟩ := st_K hw (hts _ st_t217) (hts _ st_t36)
  have X : ct_X (p, l, e, room_1, s, m, #[Value.ref b], below, meth, c) D cA A A cL_law 13 RL wsL_law0 room_1 := ⟨hx, hb, hml, hown, hw, hK, st_EX hts hN A hA0, hA1, fun q h => h, hlocks, rfl, fun h => absurd rfl h, fun h => absurd rfl h⟩
  have hl := lv_entry ([.ref b]) (n := 13) (Nat.le_of_ble_eq_true rfl)
  rw [lg_entry_eq]
  have hl : lv_has _ 13 [(0, .ref b)] := hl
  refine (?_ : ct_W (p, l, e, room_1, s, m, #[Value.ref b], below, meth, c) D A 13 (lw_Z below #[Value.ref b] s) 0 0 0 (fun _ => (0, .inr (0, []))) 0 [(0, .ref b)] []) s.heap [] _ (fun k q h => absurd h (by simp [wl])) ⟨fun i j p q h => absurd h (by simp [wl]), fun k q h => absurd h (by simp [wl])⟩ va_S.rf hl
  clear hl
  refine ct_new X 8 [.null, .null, .null, .int 0, .int 0, .null] rfl in0X8 tyX8 tyX8_ok k_l1 st_i8 k_l2 zz_X8 (Nat.le_of_ble_eq_true rfl) (Nat.le_of_ble_eq_true rfl) dL_law_0 (fun q0 => ?_)
  refine ct_dup X dL_law_3 ?_
  refine ct_call 204 203 1724 0 X (c_X8_init l A D cA) (by decide) rfl (by decide) gL_law_X8_init rfl rfl rfl k_l2 k_l3 k_l4 rfl (by decide +kernel) ⟨Nat.le_of_ble_eq_true rfl, Nat.le_of_ble_eq_true rfl⟩ ⟨Nat.le_of_ble_eq_true rfl, Nat.le_of_ble_eq_true rfl⟩ (Nat.le_of_ble_eq_true rfl) dL_law_4 (fun gc hgc hsp => ?_)
  subst hgc
  refine ct_astore X [(1, .ref (gc 0).1), (0, .ref b)] (k := 1) (i := 1) rfl (by decide) rfl dL_law_7 ?_
  refine ct_gen (fun gz hgz => ?_)
  have hgz1 : ∀ i, i < 204 → gz i = gc i := fun i hi => by rw [hgz]; exact st_g1 _ gc _ hi
  refine ct_bipush X (42 : Int32) (by decide) dL_law_8 ?_
  refine ct_newi X 42 k_arr_law0 (by decide) (by decide) (by decide) (Nat.le_of_ble_eq_true rfl) (Nat.le_of_ble_eq_true rfl) dL_law_10 (fun q2 => ?_)
  refine ct_astore X [(2, .ref q2), (1, .ref (gc 0).1), (0, .ref b)] (k := 2) (i := 2) rfl (by decide) rfl dL_law_12 ?_
  refine ct_bipush X (22 : Int32) (by decide) dL_law_13 ?_
  refine ct_newi X 22 k_arr_law0 (by decide) (by decide) (by decide) (Nat.le_of_ble_eq_true rfl) (Nat.le_of_ble_eq_true rfl) dL_law_15 (fun q3 => ?_)
  refine ct_astore X [(3, .ref q3), (2, .ref q2), (1, .ref (gc 0).1), (0, .ref b)] (k := 3) (i := 3) rfl (by decide) rfl dL_law_17 ?_
  refine ct_bipush X (9 : Int32) (by decide) dL_law_18 ?_
  refine ct_newi X 9 k_arr_law0 (by decide) (by decide) (by decide) (Nat.le_of_ble_eq_true rfl) (Nat.le_of_ble_eq_true rfl) dL_law_20 (fun q4 => ?_)
  refine ct_astoreW X [(4, .ref q4), (3, .ref q3), (2, .ref q2), (1, .ref (gc 0).1), (0, .ref b)] (by decide) rfl dL_law_22 ?_
  refine ct_bipush X (50 : Int32) (by decide) dL_law_24 ?_
  refine ct_newi X 50 k_arr_law0 (by decide) (by decide) (by decide) (Nat.le_of_ble_eq_true rfl) (Nat.le_of_ble_eq_true rfl) dL_law_26 (fun q5 => ?_)
  refine ct_astoreW X [(5, .ref q5), (4, .ref q4), (3, .ref q3), (2, .ref q2), (1, .ref (gc 0).1), (0, .ref b)] (by decide) rfl dL_law_28 ?_
  refine ct_bipush X (7 : Int32) (by decide) dL_law_30 ?_
  refine ct_newi X 7 k_arr_law0 (by decide) (by decide) (by decide) (Nat.le_of_ble_eq_true rfl) (Nat.le_of_ble_eq_true rfl) dL_law_32 (fun q6 => ?_)
  refine ct_astoreW X [(6, .ref q6), (5, .ref q5), (4, .ref q4), (3, .ref q3), (2, .ref q2), (1, .ref (gc 0).1), (0, .ref b)] (by decide) rfl dL_law_34 ?_
  refine ct_bipush X (16 : Int32) (by decide) dL_law_36 ?_
  refine ct_newi X 16 k_arr_law0 (by decide) (by decide) (by decide) (Nat.le_of_ble_eq_true rfl) (Nat.le_of_ble_eq_true rfl) dL_law_38 (fun q7 => ?_)
  refine ct_astoreW X [(7, .ref q7), (6, .ref q6), (5, .ref q5), (4, .ref q4), (3, .ref q3), (2, .ref q2), (1, .ref (gc 0).1), (0, .ref b)] (by decide) rfl dL_law_40 ?_
  refine ct_bipush X (14 : Int32) (by decide) dL_law_42 ?_
  refine ct_newi X 14 k_arr_law0 (by decide) (by decide) (by decide) (Nat.le_of_ble_eq_true rfl) (Nat.le_of_ble_eq_true rfl) dL_law_44 (fun q8 => ?_)
  refine ct_astoreW X [(8, .ref q8), (7, .ref q7), (6, .ref q6), (5, .ref q5), (4, .ref q4), (3, .ref q3), (2, .ref q2), (1, .ref (gc 0).1), (0, .ref b)] (by decide) rfl dL_law_46 ?_
  refine ct_aloadW X 2 rfl dL_law_48 ?_
  refine ct_iconst X (0 : Int32) (by decide) dL_law_50 ?_
  refine ct_bipush X (16 : Int32) (by decide) dL_law_51 ?_
  refine ct_iast X 208 (a := q6) (N' := 7) (f := (fun _ => 0)) (by decide) rfl (by unfold vp_in; decide) dL_law_53 ?_
  refine ct_aloadW X 2 rfl dL_law_54 ?_
  refine ct_iconst X (1 : Int32) (by decide) dL_law_56 ?_
  refine ct_iconst X (5 : Int32) (by decide) dL_law_57 ?_
  refine ct_iast X 208 (a := q6) (N' := 7) (f := (upd (fun _ => 0) (0 : Int32).toNatClampNeg (16 : Int32))) (by decide) rfl (by unfold vp_in; decide) dL_law_58 ?_
  refine ct_aloadW X 2 rfl dL_law_59 ?_
  refine ct_iconst X (2 : Int32) (by decide) dL_law_61 ?_
  refine ct_iconst X (3 : Int32) (by decide) dL_law_62 ?_
  refine ct_iast X 208 (a := q6) (N' := 7) (f := (upd (upd (fun _ => 0) (0 : Int32).toNatClampNeg (16 : Int32)) (1 : Int32).toNatClampNeg (5 : Int32))) (by decide) rfl (by unfold vp_in; decide) dL_law_63 ?_
  refine ct_aloadW X 2 rfl dL_law_64 ?_
  refine ct_iconst X (3 : Int32) (by decide) dL_law_66 ?_
  refine ct_bipush X (24 : Int32) (by decide) dL_law_67 ?_
  refine ct_iast X 208 (a := q6) (N' := 7) (f := (upd (upd (upd (fun _ => 0) (0 : Int32).toNatClampNeg (16 : Int32)) (1 : Int32).toNatClampNeg (5 : Int32)) (2 : Int32).toNatClampNeg (3 : Int32))) (by decide) rfl (by unfold vp_in; decide) dL_law_69 ?_
  refine ct_aloadW X 2 rfl dL_law_70 ?_
  refine ct_iconst X (4 : Int32) (by decide) dL_law_72 ?_
  refine ct_iconst X (2 : Int32) (by decide) dL_law_73 ?_
  refine ct_iast X 208 (a := q6) (N' := 7) (f := (upd (upd (upd (upd (fun _ => 0) (0 : Int32).toNatClampNeg (16 : Int32)) (1 : Int32).toNatClampNeg (5 : Int32)) (2 : Int32).toNatClampNeg (3 : Int32)) (3 : Int32).toNatClampNeg (24 : Int32))) (by decide) rfl (by unfold vp_in; decide) dL_law_74 ?_
  refine ct_aloadW X 2 rfl dL_law_75 ?_
  refine ct_iconst X (5 : Int32) (by decide) dL_law_77 ?_
  refine ct_bipush X (10 : Int32) (by decide) dL_law_78 ?_
  refine ct_iast X 208 (a := q6) (N' := 7) (f := (upd (upd (upd (upd (upd (fun _ => 0) (0 : Int32).toNatClampNeg (16 : Int32)) (1 : Int32).toNatClampNeg (5 : Int32)) (2 : Int32).toNatClampNeg (3 : Int32)) (3 : Int32).toNatClampNeg (24 : Int32)) (4 : Int32).toNatClampNeg (2 : Int32))) (by decide) rfl (by unfold vp_in; decide) dL_law_80 ?_
  refine ct_aloadW X 0 rfl dL_law_81 ?_
  refine ct_iconst X (1 : Int32) (by decide) dL_law_83 ?_
  refine ct_iconst X (-1 : Int32) (by decide) dL_law_84 ?_
  refine ct_iast X 210 (a := q8) (N' := 14) (f := (fun _ => 0)) (by decide) rfl (by unfold vp_in; decide) dL_law_85 ?_
  refine ct_aloadW X 0 rfl dL_law_86 ?_
  refine ct_iconst X (4 : Int32) (by decide) dL_law_88 ?_
  refine ct_iconst X (-1 : Int32) (by decide) dL_law_89 ?_
  refine ct_iast X 210 (a := q8) (N' := 14) (f := (upd (fun _ => 0) (1 : Int32).toNatClampNeg (-1 : Int32))) (by decide) rfl (by unfold vp_in; decide) dL_law_90 ?_
  refine ct_gen (fun g hg => ?_)
  obtain ⟨u, hu, h80, h81, h82, h83⟩ := hsp
  have hG : st_G cA u gc g (qs q2 q3 q4 q5 q6 q7 q8) := ⟨hu, h80, h81, h82, h83, fun i hi => by
    rw [hg, ← hgz1 i hi]
    unfold gu
    repeat rw [if_neg (by omega)], fun k hk => by
    rw [hg]
    rcases (show k = 0 ∨ k = 1 ∨ k = 2 ∨ k = 3 ∨ k = 4 ∨ k = 5 ∨ k = 6 by omega) with rfl | rfl | rfl | rfl | rfl | rfl | rfl <;> rfl⟩
  have e8 : (gc 0).1 = u 8 0 := by rw [h80]
  intro H locs ls hP hD hS hl
  have hP : va_P D vwCl (wl 211 g) H := hP
  have hD : va_D A (wl 211 g) := hD
  rw [e8] at hl
  have hEK : cr_EK (E00 D u (qs q2 q3 q4 q5 q6 q7 q8) A cA) := st_EK hG hD
  have X2 : cr_X (p, l, e, room_1, s, m, #[Value.ref b], below, meth, c) (E00 D u (qs q2 q3 q4 q5 q6 q7 q8) A cA) cL_law 13 RL wsL_law0 room_1 (some .boolean) := ⟨hx, hb, hml, hown, hw, hK, hEK, st_SF hts hN (E00 D u (qs q2 q3 q4 q5 q6 q7 q8) A cA) hA0, hlocks, rfl, hr⟩
  have hend : ∀ (kc ks : Nat) (S : cr_S) (lv : List (Nat × Value)), kc ≤ 600130 → ks ≤ 7301080 → cr_P (p, l, e, room_1, s, m, #[Value.ref b], below, meth, c) (E00 D u (qs q2 q3 q4 q5 q6 q7 q8) A cA) 13 (fun (_ : Unit) (Q : State → Prop) => Q = lw_Z below #[Value.ref b] s) kc ks S 324 lv [.int (1 : Int32)] (some ()) := by
    intro kc ks S lv h1 h2 Q a g1 g2 H locs ls hW hS hls
    have g2 : Q = lw_Z below #[Value.ref b] s := g2
    subst g2
    exact W.widen h1 h2 (va_forget (fun q hq => hA2 _ (hS.2.2 q hq)) (W.base (lw_ret (Drawn.sameBut.refl s.drawn lw_cs) hx hb hr hlocks dL_law_324)))
  have hup : ∀ q, (E00 D u (qs q2 q3 q4 q5 q6 q7 q8) A cA).2.1 8 0 ≤ q → (E00 D u (qs q2 q3 q4 q5 q6 q7 q8) A cA).2.2.1 q := fun q h => by
    have h9 : A (u 8 0) := by
      have := hD.2 0 _ (wl_at (by decide))
      rw [hG.2.2.2.2.2.1 0 (by decide), h80] at this
      exact this
    exact hA1 q (Nat.le_trans (hA2 _ h9) h)
  have fin := b_L_law_91 X2 E00_nf hup hend (xs := xs) (L := L) ⟨hX, hbl, hA0 b hbl⟩ S00
  rw [law_91 xs (by omega) st_RV] at fin
  have k := fin (lw_Z below #[Value.ref b] s) () rfl rfl H locs ls (st_WH hG hP) hS (lv_sub hl [8, 7, 6, 5, 4, 3, 2, 1, 0] rfl)
  exact W.widen (Nat.le_of_ble_eq_true rfl) (Nat.le_of_ble_eq_true rfl) k
