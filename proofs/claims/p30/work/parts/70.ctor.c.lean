/-! ### a farm is made -/
def G0 : cr_G := fun j => match j with
  | 10 => fun i => if i = 2 ∨ i = 4 then -1 else 0
  | 13 => va_cpy cr_c0 (fun _ => 0) 0 0 7
  | _ => fun _ => 0
def ctU (c : Nat → ClassId) (u : Nat → Nat) : cr_E := ((fun _ => 0, fun _ _ => 0), fun _ j => u j, fun _ => True, c)
def fsp (c : Nat → ClassId) (g : Nat → Nat × va_E) : Prop := ∃ u : Nat → Nat, ∀ j, j < 25 → g j = (u j, cr_fc (ctU c u) 0 G0 j)
theorem ct_gen {Γ : cr_C} {D : va_G} {A : Nat → Prop} {nL : Nat} {Q : State → Prop} {kc ks n pc : Nat} {g : Nat → Nat × va_E} {lv : List (Nat × Value)} {st : List Value} (kk : ∀ gg, gg = g → ct_W Γ D A nL Q kc ks n gg pc lv st) : ct_W Γ D A nL Q kc ks n g pc lv st := kk g rfl
theorem ct_refs {Γ : cr_C} {D : va_G} {A : Nat → Prop} {nL : Nat} {Q : State → Prop} {kc ks n pc : Nat} {g : Nat → Nat × va_E} {lv : List (Nat × Value)} {st : List Value} (q0 : Nat) {a N' : Nat} {cA : ClassId} {f : Nat → Option Nat} (f' : Nat → Option Nat) (hq : q0 < n) (hg : g q0 = (a, .inl (cA, N', .inr (.inr (.inr (.inr f)))))) (hf : ∀ j, j < N' → f j = f' j) (kk : ct_W Γ D A nL Q kc ks n (gu g q0 (a, .inl (cA, N', .inr (.inr (.inr (.inr f')))))) pc lv st) : ct_W Γ D A nL Q kc ks n g pc lv st := by
  intro H locs ls hP hD hS hl
  have hc : vp_cell cA (N', .inr (.inr (.inr (.inr f)))) = vp_cell cA (N', .inr (.inr (.inr (.inr f')))) := by
    show arrV cA N' (fun j => va_rf (f j)) = arrV cA N' (fun j => va_rf (f' j))
    unfold arrV
    have h9 : (fun j : Fin N' => va_rf (f j.val)) = fun j : Fin N' => va_rf (f' j.val) := funext fun j => by rw [hf j.val j.isLt]
    rw [h9]
  refine kk H locs ls (fun k q hk => ?_) ⟨fun i j pq qq h1 h2 h3 => ?_, fun k q hk => ?_⟩ hS hl
  · obtain ⟨hk1, rfl⟩ := wl_some hk
    by_cases e : k = q0
    · subst e
      have h1 := hP k _ (wl_at hk1)
      rw [hg] at h1
      have h2 : gu g k (a, .inl (cA, N', .inr (.inr (.inr (.inr f'))))) k = (a, .inl (cA, N', .inr (.inr (.inr (.inr f'))))) := if_pos rfl
      rw [h2]
      show H[a]? = some (vp_cell cA (N', .inr (.inr (.inr (.inr f')))))
      rw [← hc]
      exact h1
    · have h2 : gu g q0 (a, .inl (cA, N', .inr (.inr (.inr (.inr f'))))) k = g k := if_neg e
      rw [h2]
      exact hP k _ (wl_at hk1)
  · obtain ⟨hi, rfl⟩ := wl_some h1
    obtain ⟨hj, rfl⟩ := wl_some h2
    have key : ∀ k, (gu g q0 (a, .inl (cA, N', .inr (.inr (.inr (.inr f'))))) k).1 = (g k).1 := fun k => by
      by_cases e : k = q0
      · subst e
        rw [hg]
        rw [show gu g k (a, .inl (cA, N', .inr (.inr (.inr (.inr f'))))) k = (a, .inl (cA, N', .inr (.inr (.inr (.inr f'))))) from if_pos rfl]
      · exact congrArg Prod.fst (if_neg e)
    rw [key, key] at h3
    exact hD.1 i j _ _ (wl_at hi) (wl_at hj) h3
  · obtain ⟨hk1, rfl⟩ := wl_some hk
    have key : (gu g q0 (a, .inl (cA, N', .inr (.inr (.inr (.inr f'))))) k).1 = (g k).1 := by
      by_cases e : k = q0
      · subst e
        rw [hg]
        rw [show gu g k (a, .inl (cA, N', .inr (.inr (.inr (.inr f'))))) k = (a, .inl (cA, N', .inr (.inr (.inr (.inr f'))))) from if_pos rfl]
      · exact congrArg Prod.fst (if_neg e)
    rw [key]
    exact hD.2 k _ (wl_at hk1)
theorem zz_X0 : ∀ j, j < 3 → defaultValue (tyX0 j) = vp_V [.null, .null, .int 0] j := by
  intro j hj
  rcases (show j = 0 ∨ j = 1 ∨ j = 2 by omega) with rfl | rfl | rfl <;> rfl
theorem zz_X1 : ∀ j, j < 5 → defaultValue (tyX1 j) = vp_V [.int 0, .int 0, .int 0, .int 0, .int 0] j := by
  intro j hj
  rcases (show j = 0 ∨ j = 1 ∨ j = 2 ∨ j = 3 ∨ j = 4 by omega) with rfl | rfl | rfl | rfl | rfl <;> rfl
theorem zz_X2 : ∀ j, j < 10 → defaultValue (tyX2 j) = vp_V [.null, .int 0, .null, .null, .null, .null, .null, .null, .null, .int 0] j := by
  intro j hj
  rcases (show j = 0 ∨ j = 1 ∨ j = 2 ∨ j = 3 ∨ j = 4 ∨ j = 5 ∨ j = 6 ∨ j = 7 ∨ j = 8 ∨ j = 9 by omega) with rfl | rfl | rfl | rfl | rfl | rfl | rfl | rfl | rfl | rfl <;> rfl
theorem zz_X3 : ∀ j, j < 3 → defaultValue (tyX3 j) = vp_V [.null, .null, .int 0] j := by
  intro j hj
  rcases (show j = 0 ∨ j = 1 ∨ j = 2 by omega) with rfl | rfl | rfl <;> rfl
theorem zz_X4 : ∀ j, j < 2 → defaultValue (tyX4 j) = vp_V [.null, .int 0] j := by
  intro j hj
  rcases (show j = 0 ∨ j = 1 by omega) with rfl | rfl <;> rfl
theorem zz_X5 : ∀ j, j < 7 → defaultValue (tyX5 j) = vp_V [.int 0, .int 0, .int 0, .int 0, .int 0, .int 0, .int 0] j := by
  intro j hj
  rcases (show j = 0 ∨ j = 1 ∨ j = 2 ∨ j = 3 ∨ j = 4 ∨ j = 5 ∨ j = 6 by omega) with rfl | rfl | rfl | rfl | rfl | rfl | rfl <;> rfl
theorem zz_X6 : ∀ j, j < 2 → defaultValue (tyX6 j) = vp_V [.null, .int 0] j := by
  intro j hj
  rcases (show j = 0 ∨ j = 1 by omega) with rfl | rfl <;> rfl
theorem zz_X7 : ∀ j, j < 2 → defaultValue (tyX7 j) = vp_V [.null, .int 0] j := by
  intro j hj
  rcases (show j = 0 ∨ j = 1 by omega) with rfl | rfl <;> rfl
theorem zz_X8 : ∀ j, j < 6 → defaultValue (tyX8 j) = vp_V [.null, .null, .null, .int 0, .int 0, .null] j := by
  intro j hj
  rcases (show j = 0 ∨ j = 1 ∨ j = 2 ∨ j = 3 ∨ j = 4 ∨ j = 5 by omega) with rfl | rfl | rfl | rfl | rfl | rfl <;> rfl
theorem c_X2_init (l : Launch) (A0 : Nat → Prop) (D : va_G) (c : Nat → ClassId) : ct_M l A0 D c yX2_init wsX2_init ({ frames := 2, cells := 24, slots := 197, locals := 200 }) (.inr (2, [.null, .int 0, .null, .null, .null, .null, .null, .null, .null, .int 0])) 25 24 197 (fsp c) := by
  refine ct_enter (cc := cX2_init) (nL := 2) rfl rfl rfl (by decide) (fun Γ h0 A hl X => ?_)
  refine ct_aload X 0 rfl rfl dX2_init_0 ?_
  refine ct_obj X (List.mem_of_getElem? (i := 1) rfl) (List.mem_of_getElem? (i := 2) rfl) (List.mem_of_getElem? (i := 3) rfl) (Nat.le_of_ble_eq_true rfl) (Nat.le_of_ble_eq_true rfl) dX2_init_1 ?_
  refine ct_aload X 0 rfl rfl dX2_init_4 ?_
  refine ct_bipush X (10 : Int32) (by decide) dX2_init_5 ?_
  refine ct_newq X "CraneCampaign$Turbine" 3 10 (List.mem_of_getElem? (i := 4) rfl) (fun U h => h.2.2.1) rfl (by decide) (by decide) (Nat.le_of_ble_eq_true rfl) (Nat.le_of_ble_eq_true rfl) (Nat.le_of_ble_eq_true rfl) dX2_init_7 (fun q1 => ?_)
  refine ct_putF X 0 (fs := [.null, .int 0, .null, .null, .null, .null, .null, .null, .null, .int 0]) (v := .ref q1) (by decide) rfl rfl (fun w h => List.mem_cons_of_mem _ (List.mem_append_left _ (List.mem_append_left _ (List.mem_append_left _ (List.mem_append_left _ (List.mem_append_left _ (List.mem_append_left _ (List.mem_append_right _ h)))))))) tyX2 tyX2_ok nmX2 0 (by decide) (List.mem_of_getElem? (i := 5) rfl) rfl rfl rfl rfl (Nat.le_of_ble_eq_true rfl) dX2_init_10 ?_
  refine ct_aload X 0 rfl rfl dX2_init_13 ?_
  refine ct_iconst X (0 : Int32) (by decide) dX2_init_14 ?_
  refine ct_put X 0 (fs := [.ref q1, .int 0, .null, .null, .null, .null, .null, .null, .null, .int 0]) (v := .int 0) (by decide) rfl rfl (fun w h => List.mem_cons_of_mem _ (List.mem_append_left _ (List.mem_append_left _ (List.mem_append_left _ (List.mem_append_left _ (List.mem_append_left _ (List.mem_append_left _ (List.mem_append_right _ h)))))))) tyX2 tyX2_ok nmX2 1 (by decide) (List.mem_of_getElem? (i := 6) rfl) rfl rfl rfl (Nat.le_of_ble_eq_true rfl) dX2_init_15 ?_
  refine ct_aload X 0 rfl rfl dX2_init_18 ?_
  refine ct_new X 0 [.null, .null, .int 0] rfl (fun w h => List.mem_cons_of_mem _ (List.mem_append_left _ (List.mem_append_left _ (List.mem_append_left _ (List.mem_append_left _ (List.mem_append_left _ (List.mem_append_right _ h))))))) tyX0 tyX0_ok (List.mem_of_getElem? (i := 7) rfl) (List.mem_of_getElem? (i := 8) rfl) (List.mem_of_getElem? (i := 9) rfl) zz_X0 (Nat.le_of_ble_eq_true rfl) (Nat.le_of_ble_eq_true rfl) dX2_init_19 (fun bgB => ?_)
  refine ct_dup X dX2_init_22 ?_
  refine ct_callN 3 2 12 2 X (c_X0_init _ A0 D c) (by decide) rfl (by decide) gX2_init_X0_init_n23 rfl rfl rfl (List.mem_of_getElem? (i := 9) rfl) (by decide +kernel) (List.mem_of_getElem? (i := 37) rfl) rfl (by decide +kernel) ⟨Nat.le_of_ble_eq_true rfl, Nat.le_of_ble_eq_true rfl⟩ ⟨Nat.le_of_ble_eq_true rfl, Nat.le_of_ble_eq_true rfl⟩ (Nat.le_of_ble_eq_true rfl) dX2_init_23 (fun gB hgB sgB => ?_)
  subst hgB
  refine ct_putF X 0 (fs := [.ref q1, .int 0, .null, .null, .null, .null, .null, .null, .null, .int 0]) (v := .ref (gB 0).1) (by decide) rfl rfl (fun w h => List.mem_cons_of_mem _ (List.mem_append_left _ (List.mem_append_left _ (List.mem_append_left _ (List.mem_append_left _ (List.mem_append_left _ (List.mem_append_left _ (List.mem_append_right _ h)))))))) tyX2 tyX2_ok nmX2 2 (by decide) (List.mem_of_getElem? (i := 10) rfl) rfl rfl rfl rfl (Nat.le_of_ble_eq_true rfl) dX2_init_26 ?_
  refine ct_aload X 0 rfl rfl dX2_init_29 ?_
  refine ct_new X 3 [.null, .null, .int 0] rfl (fun w h => List.mem_cons_of_mem _ (List.mem_append_left _ (List.mem_append_left _ (List.mem_append_left _ (List.mem_append_left _ (List.mem_append_right _ h)))))) tyX3 tyX3_ok (List.mem_of_getElem? (i := 11) rfl) (List.mem_of_getElem? (i := 12) rfl) (List.mem_of_getElem? (i := 13) rfl) zz_X3 (Nat.le_of_ble_eq_true rfl) (Nat.le_of_ble_eq_true rfl) dX2_init_30 (fun bgH => ?_)
  refine ct_dup X dX2_init_33 ?_
  refine ct_callN 3 2 20 5 X (c_X3_init _ A0 D c) (by decide) rfl (by decide) gX2_init_X3_init_n30 rfl rfl rfl (List.mem_of_getElem? (i := 13) rfl) (by decide +kernel) (List.mem_of_getElem? (i := 43) rfl) rfl (by decide +kernel) ⟨Nat.le_of_ble_eq_true rfl, Nat.le_of_ble_eq_true rfl⟩ ⟨Nat.le_of_ble_eq_true rfl, Nat.le_of_ble_eq_true rfl⟩ (Nat.le_of_ble_eq_true rfl) dX2_init_34 (fun gH hgH sgH => ?_)
  subst hgH
  refine ct_putF X 0 (fs := [.ref q1, .int 0, .ref (gB 0).1, .null, .null, .null, .null, .null, .null, .int 0]) (v := .ref (gH 0).1) (by decide) rfl rfl (fun w h => List.mem_cons_of_mem _ (List.mem_append_left _ (List.mem_append_left _ (List.mem_append_left _ (List.mem_append_left _ (List.mem_append_left _ (List.mem_append_left _ (List.mem_append_right _ h)))))))) tyX2 tyX2_ok nmX2 3 (by decide) (List.mem_of_getElem? (i := 14) rfl) rfl rfl rfl rfl (Nat.le_of_ble_eq_true rfl) dX2_init_37 ?_
  refine ct_aload X 0 rfl rfl dX2_init_40 ?_
  refine ct_new X 4 [.null, .int 0] rfl (fun w h => List.mem_cons_of_mem _ (List.mem_append_left _ (List.mem_append_left _ (List.mem_append_left _ (List.mem_append_right _ h))))) tyX4 tyX4_ok (List.mem_of_getElem? (i := 15) rfl) (List.mem_of_getElem? (i := 16) rfl) (List.mem_of_getElem? (i := 17) rfl) zz_X4 (Nat.le_of_ble_eq_true rfl) (Nat.le_of_ble_eq_true rfl) dX2_init_41 (fun bgP => ?_)
  refine ct_dup X dX2_init_44 ?_
  refine ct_callN 2 1 10 8 X (c_X4_init _ A0 D c) (by decide) rfl (by decide) gX2_init_X4_init_n37 rfl rfl rfl (List.mem_of_getElem? (i := 17) rfl) (by decide +kernel) (List.mem_of_getElem? (i := 49) rfl) rfl (by decide +kernel) ⟨Nat.le_of_ble_eq_true rfl, Nat.le_of_ble_eq_true rfl⟩ ⟨Nat.le_of_ble_eq_true rfl, Nat.le_of_ble_eq_true rfl⟩ (Nat.le_of_ble_eq_true rfl) dX2_init_45 (fun gP hgP sgP => ?_)
  subst hgP
  refine ct_putF X 0 (fs := [.ref q1, .int 0, .ref (gB 0).1, .ref (gH 0).1, .null, .null, .null, .null, .null, .int 0]) (v := .ref (gP 0).1) (by decide) rfl rfl (fun w h => List.mem_cons_of_mem _ (List.mem_append_left _ (List.mem_append_left _ (List.mem_append_left _ (List.mem_append_left _ (List.mem_append_left _ (List.mem_append_left _ (List.mem_append_right _ h)))))))) tyX2 tyX2_ok nmX2 4 (by decide) (List.mem_of_getElem? (i := 18) rfl) rfl rfl rfl rfl (Nat.le_of_ble_eq_true rfl) dX2_init_48 ?_
  refine ct_aload X 0 rfl rfl dX2_init_51 ?_
  refine ct_new X 1 [.int 0, .int 0, .int 0, .int 0, .int 0] rfl (fun w h => List.mem_cons_of_mem _ (List.mem_append_left _ (List.mem_append_left _ (List.mem_append_right _ h)))) tyX1 tyX1_ok (List.mem_of_getElem? (i := 19) rfl) (List.mem_of_getElem? (i := 20) rfl) (List.mem_of_getElem? (i := 21) rfl) zz_X1 (Nat.le_of_ble_eq_true rfl) (Nat.le_of_ble_eq_true rfl) dX2_init_52 (fun bgC => ?_)
  refine ct_dup X dX2_init_55 ?_
  refine ct_callN 1 0 0 10 X (c_X1_init _ A0 D c) (by decide) rfl (by decide) gX2_init_X1_init_n44 rfl rfl rfl (List.mem_of_getElem? (i := 21) rfl) (by decide +kernel) (List.mem_of_getElem? (i := 54) rfl) rfl (by decide +kernel) ⟨Nat.le_of_ble_eq_true rfl, Nat.le_of_ble_eq_true rfl⟩ ⟨Nat.le_of_ble_eq_true rfl, Nat.le_of_ble_eq_true rfl⟩ (Nat.le_of_ble_eq_true rfl) dX2_init_56 (fun gC hgC sgC => ?_)
  subst hgC
  refine ct_putF X 0 (fs := [.ref q1, .int 0, .ref (gB 0).1, .ref (gH 0).1, .ref (gP 0).1, .null, .null, .null, .null, .int 0]) (v := .ref (gC 0).1) (by decide) rfl rfl (fun w h => List.mem_cons_of_mem _ (List.mem_append_left _ (List.mem_append_left _ (List.mem_append_left _ (List.mem_append_left _ (List.mem_append_left _ (List.mem_append_left _ (List.mem_append_right _ h)))))))) tyX2 tyX2_ok nmX2 5 (by decide) (List.mem_of_getElem? (i := 22) rfl) rfl rfl rfl rfl (Nat.le_of_ble_eq_true rfl) dX2_init_59 ?_
  refine ct_aload X 0 rfl rfl dX2_init_62 ?_
  refine ct_new X 7 [.null, .int 0] rfl (fun w h => List.mem_cons_of_mem _ (List.mem_append_left _ (List.mem_append_right _ h))) tyX7 tyX7_ok (List.mem_of_getElem? (i := 23) rfl) (List.mem_of_getElem? (i := 24) rfl) (List.mem_of_getElem? (i := 25) rfl) zz_X7 (Nat.le_of_ble_eq_true rfl) (Nat.le_of_ble_eq_true rfl) dX2_init_63 (fun bgW => ?_)
  refine ct_dup X dX2_init_66 ?_
  refine ct_callN 2 1 48 11 X (c_X7_init _ A0 D c) (by decide) rfl (by decide) gX2_init_X7_init_n51 rfl rfl rfl (List.mem_of_getElem? (i := 25) rfl) (by decide +kernel) (List.mem_of_getElem? (i := 62) rfl) rfl (by decide +kernel) ⟨Nat.le_of_ble_eq_true rfl, Nat.le_of_ble_eq_true rfl⟩ ⟨Nat.le_of_ble_eq_true rfl, Nat.le_of_ble_eq_true rfl⟩ (Nat.le_of_ble_eq_true rfl) dX2_init_67 (fun gW hgW sgW => ?_)
  subst hgW
  refine ct_putF X 0 (fs := [.ref q1, .int 0, .ref (gB 0).1, .ref (gH 0).1, .ref (gP 0).1, .ref (gC 0).1, .null, .null, .null, .int 0]) (v := .ref (gW 0).1) (by decide) rfl rfl (fun w h => List.mem_cons_of_mem _ (List.mem_append_left _ (List.mem_append_left _ (List.mem_append_left _ (List.mem_append_left _ (List.mem_append_left _ (List.mem_append_left _ (List.mem_append_right _ h)))))))) tyX2 tyX2_ok nmX2 6 (by decide) (List.mem_of_getElem? (i := 26) rfl) rfl rfl rfl rfl (Nat.le_of_ble_eq_true rfl) dX2_init_70 ?_
  refine ct_aload X 0 rfl rfl dX2_init_73 ?_
  refine ct_bipush X (7 : Int32) (by decide) dX2_init_74 ?_
  refine ct_newi X 7 (List.mem_of_getElem? (i := 27) rfl) (by decide) (by decide) (Nat.le_of_ble_eq_true rfl) (Nat.le_of_ble_eq_true rfl) (Nat.le_of_ble_eq_true rfl) dX2_init_76 (fun q13 => ?_)
  refine ct_putF X 0 (fs := [.ref q1, .int 0, .ref (gB 0).1, .ref (gH 0).1, .ref (gP 0).1, .ref (gC 0).1, .ref (gW 0).1, .null, .null, .int 0]) (v := .ref q13) (by decide) rfl rfl (fun w h => List.mem_cons_of_mem _ (List.mem_append_left _ (List.mem_append_left _ (List.mem_append_left _ (List.mem_append_left _ (List.mem_append_left _ (List.mem_append_left _ (List.mem_append_right _ h)))))))) tyX2 tyX2_ok nmX2 7 (by decide) (List.mem_of_getElem? (i := 28) rfl) rfl rfl rfl rfl (Nat.le_of_ble_eq_true rfl) dX2_init_78 ?_
  refine ct_aload X 0 rfl rfl dX2_init_81 ?_
  refine ct_iconst X (5 : Int32) (by decide) dX2_init_82 ?_
  refine ct_newi X 5 (List.mem_of_getElem? (i := 27) rfl) (by decide) (by decide) (Nat.le_of_ble_eq_true rfl) (Nat.le_of_ble_eq_true rfl) (Nat.le_of_ble_eq_true rfl) dX2_init_83 (fun q14 => ?_)
  refine ct_putF X 0 (fs := [.ref q1, .int 0, .ref (gB 0).1, .ref (gH 0).1, .ref (gP 0).1, .ref (gC 0).1, .ref (gW 0).1, .ref q13, .null, .int 0]) (v := .ref q14) (by decide) rfl rfl (fun w h => List.mem_cons_of_mem _ (List.mem_append_left _ (List.mem_append_left _ (List.mem_append_left _ (List.mem_append_left _ (List.mem_append_left _ (List.mem_append_left _ (List.mem_append_right _ h)))))))) tyX2 tyX2_ok nmX2 8 (by decide) (List.mem_of_getElem? (i := 29) rfl) rfl rfl rfl rfl (Nat.le_of_ble_eq_true rfl) dX2_init_85 ?_
  refine ct_aload X 0 rfl rfl dX2_init_88 ?_
  refine ct_iconst X (0 : Int32) (by decide) dX2_init_89 ?_
  refine ct_put X 0 (fs := [.ref q1, .int 0, .ref (gB 0).1, .ref (gH 0).1, .ref (gP 0).1, .ref (gC 0).1, .ref (gW 0).1, .ref q13, .ref q14, .int 0]) (v := .int 0) (by decide) rfl rfl (fun w h => List.mem_cons_of_mem _ (List.mem_append_left _ (List.mem_append_left _ (List.mem_append_left _ (List.mem_append_left _ (List.mem_append_left _ (List.mem_append_left _ (List.mem_append_right _ h)))))))) tyX2 tyX2_ok nmX2 9 (by decide) (List.mem_of_getElem? (i := 30) rfl) rfl rfl rfl (Nat.le_of_ble_eq_true rfl) dX2_init_90 ?_
  refine ct_iconst X (0 : Int32) (by decide) dX2_init_93 ?_
  refine ct_istore X [(1, .int 0), (0, .ref h0)] rfl (by decide) rfl dX2_init_94 ?_
  refine ct_iload X 0 rfl rfl dX2_init_95 ?_
  refine ct_bipush X (10 : Int32) (by decide) dX2_init_96 ?_
  refine ct_icmpge X 120 dX2_init_98 rfl (fun h => absurd h (by decide)) (fun _ => ?_)
  refine ct_aload X 1 rfl rfl dX2_init_101 ?_
  refine ct_get X 0 (fs := [.ref q1, .int 0, .ref (gB 0).1, .ref (gH 0).1, .ref (gP 0).1, .ref (gC 0).1, .ref (gW 0).1, .ref q13, .ref q14, .int 0]) (v := .ref q1) (by decide) rfl rfl (fun w h => List.mem_cons_of_mem _ (List.mem_append_left _ (List.mem_append_left _ (List.mem_append_left _ (List.mem_append_left _ (List.mem_append_left _ (List.mem_append_left _ (List.mem_append_right _ h)))))))) 0 (by decide) (List.mem_of_getElem? (i := 5) rfl) rfl dX2_init_102 ?_
  refine ct_iload X 0 rfl rfl dX2_init_105 ?_
  refine ct_new X 5 [.int 0, .int 0, .int 0, .int 0, .int 0, .int 0, .int 0] rfl (fun w h => List.mem_cons_of_mem _ (List.mem_append_right _ h)) tyX5 tyX5_ok (List.mem_of_getElem? (i := 4) rfl) (List.mem_of_getElem? (i := 31) rfl) (List.mem_of_getElem? (i := 32) rfl) zz_X5 (Nat.le_of_ble_eq_true rfl) (Nat.le_of_ble_eq_true rfl) dX2_init_106 (fun bgT0 => ?_)
  refine ct_dup X dX2_init_109 ?_
  refine ct_callN 1 0 0 15 X (c_X5_init _ A0 D c) (by decide) rfl (by decide) gX2_init_X5_init_n66 rfl rfl rfl (List.mem_of_getElem? (i := 32) rfl) (by decide +kernel) (List.mem_of_getElem? (i := 67) rfl) rfl (by decide +kernel) ⟨Nat.le_of_ble_eq_true rfl, Nat.le_of_ble_eq_true rfl⟩ ⟨Nat.le_of_ble_eq_true rfl, Nat.le_of_ble_eq_true rfl⟩ (Nat.le_of_ble_eq_true rfl) dX2_init_110 (fun gT0 hgT0 sgT0 => ?_)
  subst hgT0
  refine ct_astq X 1 3 15 5 (r := (RX5, TX5, 7)) (f := (fun _ => none)) (N' := 10) (by decide) (by decide) rfl rfl (Eq.trans (b := gT0 0) rfl (Prod.ext rfl sgT0)) rfl (by unfold vp_in; decide) dX2_init_113 ?_
  refine ct_iinc X 1 [(1, .int 1), (0, .ref h0)] 0 rfl (by decide) (by decide) rfl dX2_init_114 ?_
  refine ct_goto X 95 dX2_init_117 rfl ?_
  refine ct_iload X 0 rfl rfl dX2_init_95 ?_
  refine ct_bipush X (10 : Int32) (by decide) dX2_init_96 ?_
  refine ct_icmpge X 120 dX2_init_98 rfl (fun h => absurd h (by decide)) (fun _ => ?_)
  refine ct_aload X 1 rfl rfl dX2_init_101 ?_
  refine ct_get X 0 (fs := [.ref q1, .int 0, .ref (gB 0).1, .ref (gH 0).1, .ref (gP 0).1, .ref (gC 0).1, .ref (gW 0).1, .ref q13, .ref q14, .int 0]) (v := .ref q1) (by decide) rfl rfl (fun w h => List.mem_cons_of_mem _ (List.mem_append_left _ (List.mem_append_left _ (List.mem_append_left _ (List.mem_append_left _ (List.mem_append_left _ (List.mem_append_left _ (List.mem_append_right _ h)))))))) 0 (by decide) (List.mem_of_getElem? (i := 5) rfl) rfl dX2_init_102 ?_
  refine ct_iload X 0 rfl rfl dX2_init_105 ?_
  refine ct_new X 5 [.int 0, .int 0, .int 0, .int 0, .int 0, .int 0, .int 0] rfl (fun w h => List.mem_cons_of_mem _ (List.mem_append_right _ h)) tyX5 tyX5_ok (List.mem_of_getElem? (i := 4) rfl) (List.mem_of_getElem? (i := 31) rfl) (List.mem_of_getElem? (i := 32) rfl) zz_X5 (Nat.le_of_ble_eq_true rfl) (Nat.le_of_ble_eq_true rfl) dX2_init_106 (fun bgT1 => ?_)
  refine ct_dup X dX2_init_109 ?_
  refine ct_callN 1 0 0 16 X (c_X5_init _ A0 D c) (by decide) rfl (by decide) gX2_init_X5_init_n66 rfl rfl rfl (List.mem_of_getElem? (i := 32) rfl) (by decide +kernel) (List.mem_of_getElem? (i := 67) rfl) rfl (by decide +kernel) ⟨Nat.le_of_ble_eq_true rfl, Nat.le_of_ble_eq_true rfl⟩ ⟨Nat.le_of_ble_eq_true rfl, Nat.le_of_ble_eq_true rfl⟩ (Nat.le_of_ble_eq_true rfl) dX2_init_110 (fun gT1 hgT1 sgT1 => ?_)
  subst hgT1
  refine ct_astq X 1 3 16 5 (r := (RX5, TX5, 7)) (f := (va_up (fun _ => none) (0 : Int32).toNatClampNeg (some (gT0 0).1))) (N' := 10) (by decide) (by decide) rfl rfl (Eq.trans (b := gT1 0) rfl (Prod.ext rfl sgT1)) rfl (by unfold vp_in; decide) dX2_init_113 ?_
  refine ct_iinc X 2 [(1, .int 2), (0, .ref h0)] 0 rfl (by decide) (by decide) rfl dX2_init_114 ?_
  refine ct_goto X 95 dX2_init_117 rfl ?_
  refine ct_iload X 0 rfl rfl dX2_init_95 ?_
  refine ct_bipush X (10 : Int32) (by decide) dX2_init_96 ?_
  refine ct_icmpge X 120 dX2_init_98 rfl (fun h => absurd h (by decide)) (fun _ => ?_)
  refine ct_aload X 1 rfl rfl dX2_init_101 ?_
  refine ct_get X 0 (fs := [.ref q1, .int 0, .ref (gB 0).1, .ref (gH 0).1, .ref (gP 0).1, .ref (gC 0).1, .ref (gW 0).1, .ref q13, .ref q14, .int 0]) (v := .ref q1) (by decide) rfl rfl (fun w h => List.mem_cons_of_mem _ (List.mem_append_left _ (List.mem_append_left _ (List.mem_append_left _ (List.mem_append_left _ (List.mem_append_left _ (List.mem_append_left _ (List.mem_append_right _ h)))))))) 0 (by decide) (List.mem_of_getElem? (i := 5) rfl) rfl dX2_init_102 ?_
  refine ct_iload X 0 rfl rfl dX2_init_105 ?_
  refine ct_new X 5 [.int 0, .int 0, .int 0, .int 0, .int 0, .int 0, .int 0] rfl (fun w h => List.mem_cons_of_mem _ (List.mem_append_right _ h)) tyX5 tyX5_ok (List.mem_of_getElem? (i := 4) rfl) (List.mem_of_getElem? (i := 31) rfl) (List.mem_of_getElem? (i := 32) rfl) zz_X5 (Nat.le_of_ble_eq_true rfl) (Nat.le_of_ble_eq_true rfl) dX2_init_106 (fun bgT2 => ?_)
  refine ct_dup X dX2_init_109 ?_
  refine ct_callN 1 0 0 17 X (c_X5_init _ A0 D c) (by decide) rfl (by decide) gX2_init_X5_init_n66 rfl rfl rfl (List.mem_of_getElem? (i := 32) rfl) (by decide +kernel) (List.mem_of_getElem? (i := 67) rfl) rfl (by decide +kernel) ⟨Nat.le_of_ble_eq_true rfl, Nat.le_of_ble_eq_true rfl⟩ ⟨Nat.le_of_ble_eq_true rfl, Nat.le_of_ble_eq_true rfl⟩ (Nat.le_of_ble_eq_true rfl) dX2_init_110 (fun gT2 hgT2 sgT2 => ?_)
  subst hgT2
  refine ct_astq X 1 3 17 5 (r := (RX5, TX5, 7)) (f := (va_up (va_up (fun _ => none) (0 : Int32).toNatClampNeg (some (gT0 0).1)) (1 : Int32).toNatClampNeg (some (gT1 0).1))) (N' := 10) (by decide) (by decide) rfl rfl (Eq.trans (b := gT2 0) rfl (Prod.ext rfl sgT2)) rfl (by unfold vp_in; decide) dX2_init_113 ?_
  refine ct_iinc X 3 [(1, .int 3), (0, .ref h0)] 0 rfl (by decide) (by decide) rfl dX2_init_114 ?_
  refine ct_goto X 95 dX2_init_117 rfl ?_
  refine ct_iload X 0 rfl rfl dX2_init_95 ?_
  refine ct_bipush X (10 : Int32) (by decide) dX2_init_96 ?_
  refine ct_icmpge X 120 dX2_init_98 rfl (fun h => absurd h (by decide)) (fun _ => ?_)
  refine ct_aload X 1 rfl rfl dX2_init_101 ?_
  refine ct_get X 0 (fs := [.ref q1, .int 0, .ref (gB 0).1, .ref (gH 0).1, .ref (gP 0).1, .ref (gC 0).1, .ref (gW 0).1, .ref q13, .ref q14, .int 0]) (v := .ref q1) (by decide) rfl rfl (fun w h => List.mem_cons_of_mem _ (List.mem_append_left _ (List.mem_append_left _ (List.mem_append_left _ (List.mem_append_left _ (List.mem_append_left _ (List.mem_append_left _ (List.mem_append_right _ h)))))))) 0 (by decide) (List.mem_of_getElem? (i := 5) rfl) rfl dX2_init_102 ?_
  refine ct_iload X 0 rfl rfl dX2_init_105 ?_
  refine ct_new X 5 [.int 0, .int 0, .int 0, .int 0, .int 0, .int 0, .int 0] rfl (fun w h => List.mem_cons_of_mem _ (List.mem_append_right _ h)) tyX5 tyX5_ok (List.mem_of_getElem? (i := 4) rfl) (List.mem_of_getElem? (i := 31) rfl) (List.mem_of_getElem? (i := 32) rfl) zz_X5 (Nat.le_of_ble_eq_true rfl) (Nat.le_of_ble_eq_true rfl) dX2_init_106 (fun bgT3 => ?_)
  refine ct_dup X dX2_init_109 ?_
  refine ct_callN 1 0 0 18 X (c_X5_init _ A0 D c) (by decide) rfl (by decide) gX2_init_X5_init_n66 rfl rfl rfl (List.mem_of_getElem? (i := 32) rfl) (by decide +kernel) (List.mem_of_getElem? (i := 67) rfl) rfl (by decide +kernel) ⟨Nat.le_of_ble_eq_true rfl, Nat.le_of_ble_eq_true rfl⟩ ⟨Nat.le_of_ble_eq_true rfl, Nat.le_of_ble_eq_true rfl⟩ (Nat.le_of_ble_eq_true rfl) dX2_init_110 (fun gT3 hgT3 sgT3 => ?_)
  subst hgT3
  refine ct_astq X 1 3 18 5 (r := (RX5, TX5, 7)) (f := (va_up (va_up (va_up (fun _ => none) (0 : Int32).toNatClampNeg (some (gT0 0).1)) (1 : Int32).toNatClampNeg (some (gT1 0).1)) (2 : Int32).toNatClampNeg (some (gT2 0).1))) (N' := 10) (by decide) (by decide) rfl rfl (Eq.trans (b := gT3 0) rfl (Prod.ext rfl sgT3)) rfl (by unfold vp_in; decide) dX2_init_113 ?_
  refine ct_iinc X 4 [(1, .int 4), (0, .ref h0)] 0 rfl (by decide) (by decide) rfl dX2_init_114 ?_
  refine ct_goto X 95 dX2_init_117 rfl ?_
  refine ct_iload X 0 rfl rfl dX2_init_95 ?_
  refine ct_bipush X (10 : Int32) (by decide) dX2_init_96 ?_
  refine ct_icmpge X 120 dX2_init_98 rfl (fun h => absurd h (by decide)) (fun _ => ?_)
  refine ct_aload X 1 rfl rfl dX2_init_101 ?_
  refine ct_get X 0 (fs := [.ref q1, .int 0, .ref (gB 0).1, .ref (gH 0).1, .ref (gP 0).1, .ref (gC 0).1, .ref (gW 0).1, .ref q13, .ref q14, .int 0]) (v := .ref q1) (by decide) rfl rfl (fun w h => List.mem_cons_of_mem _ (List.mem_append_left _ (List.mem_append_left _ (List.mem_append_left _ (List.mem_append_left _ (List.mem_append_left _ (List.mem_append_left _ (List.mem_append_right _ h)))))))) 0 (by decide) (List.mem_of_getElem? (i := 5) rfl) rfl dX2_init_102 ?_
  refine ct_iload X 0 rfl rfl dX2_init_105 ?_
  refine ct_new X 5 [.int 0, .int 0, .int 0, .int 0, .int 0, .int 0, .int 0] rfl (fun w h => List.mem_cons_of_mem _ (List.mem_append_right _ h)) tyX5 tyX5_ok (List.mem_of_getElem? (i := 4) rfl) (List.mem_of_getElem? (i := 31) rfl) (List.mem_of_getElem? (i := 32) rfl) zz_X5 (Nat.le_of_ble_eq_true rfl) (Nat.le_of_ble_eq_true rfl) dX2_init_106 (fun bgT4 => ?_)
  refine ct_dup X dX2_init_109 ?_
  refine ct_callN 1 0 0 19 X (c_X5_init _ A0 D c) (by decide) rfl (by decide) gX2_init_X5_init_n66 rfl rfl rfl (List.mem_of_getElem? (i := 32) rfl) (by decide +kernel) (List.mem_of_getElem? (i := 67) rfl) rfl (by decide +kernel) ⟨Nat.le_of_ble_eq_true rfl, Nat.le_of_ble_eq_true rfl⟩ ⟨Nat.le_of_ble_eq_true rfl, Nat.le_of_ble_eq_true rfl⟩ (Nat.le_of_ble_eq_true rfl) dX2_init_110 (fun gT4 hgT4 sgT4 => ?_)
  subst hgT4
  refine ct_astq X 1 3 19 5 (r := (RX5, TX5, 7)) (f := (va_up (va_up (va_up (va_up (fun _ => none) (0 : Int32).toNatClampNeg (some (gT0 0).1)) (1 : Int32).toNatClampNeg (some (gT1 0).1)) (2 : Int32).toNatClampNeg (some (gT2 0).1)) (3 : Int32).toNatClampNeg (some (gT3 0).1))) (N' := 10) (by decide) (by decide) rfl rfl (Eq.trans (b := gT4 0) rfl (Prod.ext rfl sgT4)) rfl (by unfold vp_in; decide) dX2_init_113 ?_
  refine ct_iinc X 5 [(1, .int 5), (0, .ref h0)] 0 rfl (by decide) (by decide) rfl dX2_init_114 ?_
  refine ct_goto X 95 dX2_init_117 rfl ?_
  refine ct_iload X 0 rfl rfl dX2_init_95 ?_
  refine ct_bipush X (10 : Int32) (by decide) dX2_init_96 ?_
  refine ct_icmpge X 120 dX2_init_98 rfl (fun h => absurd h (by decide)) (fun _ => ?_)
  refine ct_aload X 1 rfl rfl dX2_init_101 ?_
  refine ct_get X 0 (fs := [.ref q1, .int 0, .ref (gB 0).1, .ref (gH 0).1, .ref (gP 0).1, .ref (gC 0).1, .ref (gW 0).1, .ref q13, .ref q14, .int 0]) (v := .ref q1) (by decide) rfl rfl (fun w h => List.mem_cons_of_mem _ (List.mem_append_left _ (List.mem_append_left _ (List.mem_append_left _ (List.mem_append_left _ (List.mem_append_left _ (List.mem_append_left _ (List.mem_append_right _ h)))))))) 0 (by decide) (List.mem_of_getElem? (i := 5) rfl) rfl dX2_init_102 ?_
  refine ct_iload X 0 rfl rfl dX2_init_105 ?_
  refine ct_new X 5 [.int 0, .int 0, .int 0, .int 0, .int 0, .int 0, .int 0] rfl (fun w h => List.mem_cons_of_mem _ (List.mem_append_right _ h)) tyX5 tyX5_ok (List.mem_of_getElem? (i := 4) rfl) (List.mem_of_getElem? (i := 31) rfl) (List.mem_of_getElem? (i := 32) rfl) zz_X5 (Nat.le_of_ble_eq_true rfl) (Nat.le_of_ble_eq_true rfl) dX2_init_106 (fun bgT5 => ?_)
  refine ct_dup X dX2_init_109 ?_
  refine ct_callN 1 0 0 20 X (c_X5_init _ A0 D c) (by decide) rfl (by decide) gX2_init_X5_init_n66 rfl rfl rfl (List.mem_of_getElem? (i := 32) rfl) (by decide +kernel) (List.mem_of_getElem? (i := 67) rfl) rfl (by decide +kernel) ⟨Nat.le_of_ble_eq_true rfl, Nat.le_of_ble_eq_true rfl⟩ ⟨Nat.le_of_ble_eq_true rfl, Nat.le_of_ble_eq_true rfl⟩ (Nat.le_of_ble_eq_true rfl) dX2_init_110 (fun gT5 hgT5 sgT5 => ?_)
  subst hgT5
  refine ct_astq X 1 3 20 5 (r := (RX5, TX5, 7)) (f := (va_up (va_up (va_up (va_up (va_up (fun _ => none) (0 : Int32).toNatClampNeg (some (gT0 0).1)) (1 : Int32).toNatClampNeg (some (gT1 0).1)) (2 : Int32).toNatClampNeg (some (gT2 0).1)) (3 : Int32).toNatClampNeg (some (gT3 0).1)) (4 : Int32).toNatClampNeg (some (gT4 0).1))) (N' := 10) (by decide) (by decide) rfl rfl (Eq.trans (b := gT5 0) rfl (Prod.ext rfl sgT5)) rfl (by unfold vp_in; decide) dX2_init_113 ?_
  refine ct_iinc X 6 [(1, .int 6), (0, .ref h0)] 0 rfl (by decide) (by decide) rfl dX2_init_114 ?_
  refine ct_goto X 95 dX2_init_117 rfl ?_
  refine ct_iload X 0 rfl rfl dX2_init_95 ?_
  refine ct_bipush X (10 : Int32) (by decide) dX2_init_96 ?_
  refine ct_icmpge X 120 dX2_init_98 rfl (fun h => absurd h (by decide)) (fun _ => ?_)
  refine ct_aload X 1 rfl rfl dX2_init_101 ?_
  refine ct_get X 0 (fs := [.ref q1, .int 0, .ref (gB 0).1, .ref (gH 0).1, .ref (gP 0).1, .ref (gC 0).1, .ref (gW 0).1, .ref q13, .ref q14, .int 0]) (v := .ref q1) (by decide) rfl rfl (fun w h => List.mem_cons_of_mem _ (List.mem_append_left _ (List.mem_append_left _ (List.mem_append_left _ (List.mem_append_left _ (List.mem_append_left _ (List.mem_append_left _ (List.mem_append_right _ h)))))))) 0 (by decide) (List.mem_of_getElem? (i := 5) rfl) rfl dX2_init_102 ?_
  refine ct_iload X 0 rfl rfl dX2_init_105 ?_
  refine ct_new X 5 [.int 0, .int 0, .int 0, .int 0, .int 0, .int 0, .int 0] rfl (fun w h => List.mem_cons_of_mem _ (List.mem_append_right _ h)) tyX5 tyX5_ok (List.mem_of_getElem? (i := 4) rfl) (List.mem_of_getElem? (i := 31) rfl) (List.mem_of_getElem? (i := 32) rfl) zz_X5 (Nat.le_of_ble_eq_true rfl) (Nat.le_of_ble_eq_true rfl) dX2_init_106 (fun bgT6 => ?_)
  refine ct_dup X dX2_init_109 ?_
  refine ct_callN 1 0 0 21 X (c_X5_init _ A0 D c) (by decide) rfl (by decide) gX2_init_X5_init_n66 rfl rfl rfl (List.mem_of_getElem? (i := 32) rfl) (by decide +kernel) (List.mem_of_getElem? (i := 67) rfl) rfl (by decide +kernel) ⟨Nat.le_of_ble_eq_true rfl, Nat.le_of_ble_eq_true rfl⟩ ⟨Nat.le_of_ble_eq_true rfl, Nat.le_of_ble_eq_true rfl⟩ (Nat.le_of_ble_eq_true rfl) dX2_init_110 (fun gT6 hgT6 sgT6 => ?_)
  subst hgT6
  refine ct_astq X 1 3 21 5 (r := (RX5, TX5, 7)) (f := (va_up (va_up (va_up (va_up (va_up (va_up (fun _ => none) (0 : Int32).toNatClampNeg (some (gT0 0).1)) (1 : Int32).toNatClampNeg (some (gT1 0).1)) (2 : Int32).toNatClampNeg (some (gT2 0).1)) (3 : Int32).toNatClampNeg (some (gT3 0).1)) (4 : Int32).toNatClampNeg (some (gT4 0).1)) (5 : Int32).toNatClampNeg (some (gT5 0).1))) (N' := 10) (by decide) (by decide) rfl rfl (Eq.trans (b := gT6 0) rfl (Prod.ext rfl sgT6)) rfl (by unfold vp_in; decide) dX2_init_113 ?_
  refine ct_iinc X 7 [(1, .int 7), (0, .ref h0)] 0 rfl (by decide) (by decide) rfl dX2_init_114 ?_
  refine ct_goto X 95 dX2_init_117 rfl ?_
  refine ct_iload X 0 rfl rfl dX2_init_95 ?_
  refine ct_bipush X (10 : Int32) (by decide) dX2_init_96 ?_
  refine ct_icmpge X 120 dX2_init_98 rfl (fun h => absurd h (by decide)) (fun _ => ?_)
  refine ct_aload X 1 rfl rfl dX2_init_101 ?_
  refine ct_get X 0 (fs := [.ref q1, .int 0, .ref (gB 0).1, .ref (gH 0).1, .ref (gP 0).1, .ref (gC 0).1, .ref (gW 0).1, .ref q13, .ref q14, .int 0]) (v := .ref q1) (by decide) rfl rfl (fun w h => List.mem_cons_of_mem _ (List.mem_append_left _ (List.mem_append_left _ (List.mem_append_left _ (List.mem_append_left _ (List.mem_append_left _ (List.mem_append_left _ (List.mem_append_right _ h)))))))) 0 (by decide) (List.mem_of_getElem? (i := 5) rfl) rfl dX2_init_102 ?_
  refine ct_iload X 0 rfl rfl dX2_init_105 ?_
  refine ct_new X 5 [.int 0, .int 0, .int 0, .int 0, .int 0, .int 0, .int 0] rfl (fun w h => List.mem_cons_of_mem _ (List.mem_append_right _ h)) tyX5 tyX5_ok (List.mem_of_getElem? (i := 4) rfl) (List.mem_of_getElem? (i := 31) rfl) (List.mem_of_getElem? (i := 32) rfl) zz_X5 (Nat.le_of_ble_eq_true rfl) (Nat.le_of_ble_eq_true rfl) dX2_init_106 (fun bgT7 => ?_)
  refine ct_dup X dX2_init_109 ?_
  refine ct_callN 1 0 0 22 X (c_X5_init _ A0 D c) (by decide) rfl (by decide) gX2_init_X5_init_n66 rfl rfl rfl (List.mem_of_getElem? (i := 32) rfl) (by decide +kernel) (List.mem_of_getElem? (i := 67) rfl) rfl (by decide +kernel) ⟨Nat.le_of_ble_eq_true rfl, Nat.le_of_ble_eq_true rfl⟩ ⟨Nat.le_of_ble_eq_true rfl, Nat.le_of_ble_eq_true rfl⟩ (Nat.le_of_ble_eq_true rfl) dX2_init_110 (fun gT7 hgT7 sgT7 => ?_)
  subst hgT7
  refine ct_astq X 1 3 22 5 (r := (RX5, TX5, 7)) (f := (va_up (va_up (va_up (va_up (va_up (va_up (va_up (fun _ => none) (0 : Int32).toNatClampNeg (some (gT0 0).1)) (1 : Int32).toNatClampNeg (some (gT1 0).1)) (2 : Int32).toNatClampNeg (some (gT2 0).1)) (3 : Int32).toNatClampNeg (some (gT3 0).1)) (4 : Int32).toNatClampNeg (some (gT4 0).1)) (5 : Int32).toNatClampNeg (some (gT5 0).1)) (6 : Int32).toNatClampNeg (some (gT6 0).1))) (N' := 10) (by decide) (by decide) rfl rfl (Eq.trans (b := gT7 0) rfl (Prod.ext rfl sgT7)) rfl (by unfold vp_in; decide) dX2_init_113 ?_
  refine ct_iinc X 8 [(1, .int 8), (0, .ref h0)] 0 rfl (by decide) (by decide) rfl dX2_init_114 ?_
  refine ct_goto X 95 dX2_init_117 rfl ?_
  refine ct_iload X 0 rfl rfl dX2_init_95 ?_
  refine ct_bipush X (10 : Int32) (by decide) dX2_init_96 ?_
  refine ct_icmpge X 120 dX2_init_98 rfl (fun h => absurd h (by decide)) (fun _ => ?_)
  refine ct_aload X 1 rfl rfl dX2_init_101 ?_
  refine ct_get X 0 (fs := [.ref q1, .int 0, .ref (gB 0).1, .ref (gH 0).1, .ref (gP 0).1, .ref (gC 0).1, .ref (gW 0).1, .ref q13, .ref q14, .int 0]) (v := .ref q1) (by decide) rfl rfl (fun w h => List.mem_cons_of_mem _ (List.mem_append_left _ (List.mem_append_left _ (List.mem_append_left _ (List.mem_append_left _ (List.mem_append_left _ (List.mem_append_left _ (List.mem_append_right _ h)))))))) 0 (by decide) (List.mem_of_getElem? (i := 5) rfl) rfl dX2_init_102 ?_
  refine ct_iload X 0 rfl rfl dX2_init_105 ?_
  refine ct_new X 5 [.int 0, .int 0, .int 0, .int 0, .int 0, .int 0, .int 0] rfl (fun w h => List.mem_cons_of_mem _ (List.mem_append_right _ h)) tyX5 tyX5_ok (List.mem_of_getElem? (i := 4) rfl) (List.mem_of_getElem? (i := 31) rfl) (List.mem_of_getElem? (i := 32) rfl) zz_X5 (Nat.le_of_ble_eq_true rfl) (Nat.le_of_ble_eq_true rfl) dX2_init_106 (fun bgT8 => ?_)
  refine ct_dup X dX2_init_109 ?_
  refine ct_callN 1 0 0 23 X (c_X5_init _ A0 D c) (by decide) rfl (by decide) gX2_init_X5_init_n66 rfl rfl rfl (List.mem_of_getElem? (i := 32) rfl) (by decide +kernel) (List.mem_of_getElem? (i := 67) rfl) rfl (by decide +kernel) ⟨Nat.le_of_ble_eq_true rfl, Nat.le_of_ble_eq_true rfl⟩ ⟨Nat.le_of_ble_eq_true rfl, Nat.le_of_ble_eq_true rfl⟩ (Nat.le_of_ble_eq_true rfl) dX2_init_110 (fun gT8 hgT8 sgT8 => ?_)
  subst hgT8
  refine ct_astq X 1 3 23 5 (r := (RX5, TX5, 7)) (f := (va_up (va_up (va_up (va_up (va_up (va_up (va_up (va_up (fun _ => none) (0 : Int32).toNatClampNeg (some (gT0 0).1)) (1 : Int32).toNatClampNeg (some (gT1 0).1)) (2 : Int32).toNatClampNeg (some (gT2 0).1)) (3 : Int32).toNatClampNeg (some (gT3 0).1)) (4 : Int32).toNatClampNeg (some (gT4 0).1)) (5 : Int32).toNatClampNeg (some (gT5 0).1)) (6 : Int32).toNatClampNeg (some (gT6 0).1)) (7 : Int32).toNatClampNeg (some (gT7 0).1))) (N' := 10) (by decide) (by decide) rfl rfl (Eq.trans (b := gT8 0) rfl (Prod.ext rfl sgT8)) rfl (by unfold vp_in; decide) dX2_init_113 ?_
  refine ct_iinc X 9 [(1, .int 9), (0, .ref h0)] 0 rfl (by decide) (by decide) rfl dX2_init_114 ?_
  refine ct_goto X 95 dX2_init_117 rfl ?_
  refine ct_iload X 0 rfl rfl dX2_init_95 ?_
  refine ct_bipush X (10 : Int32) (by decide) dX2_init_96 ?_
  refine ct_icmpge X 120 dX2_init_98 rfl (fun h => absurd h (by decide)) (fun _ => ?_)
  refine ct_aload X 1 rfl rfl dX2_init_101 ?_
  refine ct_get X 0 (fs := [.ref q1, .int 0, .ref (gB 0).1, .ref (gH 0).1, .ref (gP 0).1, .ref (gC 0).1, .ref (gW 0).1, .ref q13, .ref q14, .int 0]) (v := .ref q1) (by decide) rfl rfl (fun w h => List.mem_cons_of_mem _ (List.mem_append_left _ (List.mem_append_left _ (List.mem_append_left _ (List.mem_append_left _ (List.mem_append_left _ (List.mem_append_left _ (List.mem_append_right _ h)))))))) 0 (by decide) (List.mem_of_getElem? (i := 5) rfl) rfl dX2_init_102 ?_
  refine ct_iload X 0 rfl rfl dX2_init_105 ?_
  refine ct_new X 5 [.int 0, .int 0, .int 0, .int 0, .int 0, .int 0, .int 0] rfl (fun w h => List.mem_cons_of_mem _ (List.mem_append_right _ h)) tyX5 tyX5_ok (List.mem_of_getElem? (i := 4) rfl) (List.mem_of_getElem? (i := 31) rfl) (List.mem_of_getElem? (i := 32) rfl) zz_X5 (Nat.le_of_ble_eq_true rfl) (Nat.le_of_ble_eq_true rfl) dX2_init_106 (fun bgT9 => ?_)
  refine ct_dup X dX2_init_109 ?_
  refine ct_callN 1 0 0 24 X (c_X5_init _ A0 D c) (by decide) rfl (by decide) gX2_init_X5_init_n66 rfl rfl rfl (List.mem_of_getElem? (i := 32) rfl) (by decide +kernel) (List.mem_of_getElem? (i := 67) rfl) rfl (by decide +kernel) ⟨Nat.le_of_ble_eq_true rfl, Nat.le_of_ble_eq_true rfl⟩ ⟨Nat.le_of_ble_eq_true rfl, Nat.le_of_ble_eq_true rfl⟩ (Nat.le_of_ble_eq_true rfl) dX2_init_110 (fun gT9 hgT9 sgT9 => ?_)
  subst hgT9
  refine ct_astq X 1 3 24 5 (r := (RX5, TX5, 7)) (f := (va_up (va_up (va_up (va_up (va_up (va_up (va_up (va_up (va_up (fun _ => none) (0 : Int32).toNatClampNeg (some (gT0 0).1)) (1 : Int32).toNatClampNeg (some (gT1 0).1)) (2 : Int32).toNatClampNeg (some (gT2 0).1)) (3 : Int32).toNatClampNeg (some (gT3 0).1)) (4 : Int32).toNatClampNeg (some (gT4 0).1)) (5 : Int32).toNatClampNeg (some (gT5 0).1)) (6 : Int32).toNatClampNeg (some (gT6 0).1)) (7 : Int32).toNatClampNeg (some (gT7 0).1)) (8 : Int32).toNatClampNeg (some (gT8 0).1))) (N' := 10) (by decide) (by decide) rfl rfl (Eq.trans (b := gT9 0) rfl (Prod.ext rfl sgT9)) rfl (by unfold vp_in; decide) dX2_init_113 ?_
  refine ct_iinc X 10 [(1, .int 10), (0, .ref h0)] 0 rfl (by decide) (by decide) rfl dX2_init_114 ?_
  refine ct_goto X 95 dX2_init_117 rfl ?_
  refine ct_iload X 0 rfl rfl dX2_init_95 ?_
  refine ct_bipush X (10 : Int32) (by decide) dX2_init_96 ?_
  refine ct_icmpge X 120 dX2_init_98 rfl (fun _ => ?_) (fun h => absurd (by decide) h)
  refine ct_first X dX2_init_120 (fun b hb1 => ?_)
  refine ct_iconst X (0 : Int32) (by decide) dX2_init_123 ?_
  refine ct_aload X 1 rfl rfl dX2_init_124 ?_
  refine ct_get X 0 (fs := [.ref q1, .int 0, .ref (gB 0).1, .ref (gH 0).1, .ref (gP 0).1, .ref (gC 0).1, .ref (gW 0).1, .ref q13, .ref q14, .int 0]) (v := .ref q13) (by decide) rfl rfl (fun w h => List.mem_cons_of_mem _ (List.mem_append_left _ (List.mem_append_left _ (List.mem_append_left _ (List.mem_append_left _ (List.mem_append_left _ (List.mem_append_left _ (List.mem_append_right _ h)))))))) 7 (by decide) (List.mem_of_getElem? (i := 28) rfl) rfl dX2_init_125 ?_
  refine ct_iconst X (0 : Int32) (by decide) dX2_init_128 ?_
  refine ct_bipush X (7 : Int32) (by decide) dX2_init_129 ?_
  refine ct_copyx X 13 (n1 := 7) (h := fun _ => 0) (by decide) rfl hb1 (by decide) (by decide) (by decide) (by decide) (by decide) (List.mem_of_getElem? (i := 33) rfl) (List.mem_of_getElem? (i := 34) rfl) (List.mem_of_getElem? (i := 35) rfl) (List.mem_of_getElem? (i := 36) rfl) (Nat.le_of_ble_eq_true rfl) (Nat.le_of_ble_eq_true rfl) dX2_init_131 ?_
  refine ct_gen (fun gg hgg => ?_)
  have e0 : gg 0 = (h0, .inr (2, [.ref q1, .int 0, .ref (gB 0).1, .ref (gH 0).1, .ref (gP 0).1, .ref (gC 0).1, .ref (gW 0).1, .ref q13, .ref q14, .int 0])) := congrFun hgg 0
  have e1 : gg 1 = (q1, .inl (c 3, 10, .inr (.inr (.inr (.inr (va_up (va_up (va_up (va_up (va_up (va_up (va_up (va_up (va_up (va_up (fun _ => none) (0 : Int32).toNatClampNeg (some (gT0 0).1)) (1 : Int32).toNatClampNeg (some (gT1 0).1)) (2 : Int32).toNatClampNeg (some (gT2 0).1)) (3 : Int32).toNatClampNeg (some (gT3 0).1)) (4 : Int32).toNatClampNeg (some (gT4 0).1)) (5 : Int32).toNatClampNeg (some (gT5 0).1)) (6 : Int32).toNatClampNeg (some (gT6 0).1)) (7 : Int32).toNatClampNeg (some (gT7 0).1)) (8 : Int32).toNatClampNeg (some (gT8 0).1)) (9 : Int32).toNatClampNeg (some (gT9 0).1))))))) := congrFun hgg 1
  have e2 : gg 2 = ((gB 0).1, .inr (0, [.ref (gB 1).1, .ref (gB 2).1, .int 0])) := (congrFun hgg 2).trans (Eq.trans (b := gB 0) rfl (Prod.ext rfl sgB.1))
  have e3 : gg 3 = ((gB 1).1, .inl (c 0, 6, .inl (fun _ => 0))) := (congrFun hgg 3).trans (Eq.trans (b := gB 1) rfl (Prod.ext rfl sgB.2.1))
  have e4 : gg 4 = ((gB 2).1, .inl (c 0, 6, .inl (fun _ => 0))) := (congrFun hgg 4).trans (Eq.trans (b := gB 2) rfl (Prod.ext rfl sgB.2.2))
  have e5 : gg 5 = ((gH 0).1, .inr (3, [.ref (gH 1).1, .ref (gH 2).1, .int 0])) := (congrFun hgg 5).trans (Eq.trans (b := gH 0) rfl (Prod.ext rfl sgH.1))
  have e6 : gg 6 = ((gH 1).1, .inl (c 0, 10, .inl (fun _ => 0))) := (congrFun hgg 6).trans (Eq.trans (b := gH 1) rfl (Prod.ext rfl sgH.2.1))
  have e7 : gg 7 = ((gH 2).1, .inl (c 0, 10, .inl (fun _ => 0))) := (congrFun hgg 7).trans (Eq.trans (b := gH 2) rfl (Prod.ext rfl sgH.2.2))
  have e8 : gg 8 = ((gP 0).1, .inr (4, [.ref (gP 1).1, .int 0])) := (congrFun hgg 8).trans (Eq.trans (b := gP 0) rfl (Prod.ext rfl sgP.1))
  have e9 : gg 9 = ((gP 1).1, .inl (c 0, 10, .inl (fun _ => 0))) := (congrFun hgg 9).trans (Eq.trans (b := gP 1) rfl (Prod.ext rfl sgP.2))
  have e10 : gg 10 = ((gC 0).1, .inr (1, [.int 0, .int 0, .int (-1), .int 0, .int (-1)])) := (congrFun hgg 10).trans (Eq.trans (b := gC 0) rfl (Prod.ext rfl sgC))
  have e11 : gg 11 = ((gW 0).1, .inr (7, [.ref (gW 1).1, .int 0])) := (congrFun hgg 11).trans (Eq.trans (b := gW 0) rfl (Prod.ext rfl sgW.1))
  have e12 : gg 12 = ((gW 1).1, .inl (c 0, 48, .inl (fun _ => 0))) := (congrFun hgg 12).trans (Eq.trans (b := gW 1) rfl (Prod.ext rfl sgW.2))
  have e13 : gg 13 = (q13, .inl (c 0, 7, .inl (va_cpy cr_c0 (fun _ => 0) (0 : Int32).toNatClampNeg (0 : Int32).toNatClampNeg (7 : Int32).toNatClampNeg))) := congrFun hgg 13
  have e14 : gg 14 = (q14, .inl (c 0, 5, .inl (fun _ => 0))) := congrFun hgg 14
  have e15 : gg 15 = ((gT0 0).1, .inr (5, [.int 0, .int 0, .int 0, .int 0, .int 0, .int 0, .int 0])) := (congrFun hgg 15).trans (Eq.trans (b := gT0 0) rfl (Prod.ext rfl sgT0))
  have e16 : gg 16 = ((gT1 0).1, .inr (5, [.int 0, .int 0, .int 0, .int 0, .int 0, .int 0, .int 0])) := (congrFun hgg 16).trans (Eq.trans (b := gT1 0) rfl (Prod.ext rfl sgT1))
  have e17 : gg 17 = ((gT2 0).1, .inr (5, [.int 0, .int 0, .int 0, .int 0, .int 0, .int 0, .int 0])) := (congrFun hgg 17).trans (Eq.trans (b := gT2 0) rfl (Prod.ext rfl sgT2))
  have e18 : gg 18 = ((gT3 0).1, .inr (5, [.int 0, .int 0, .int 0, .int 0, .int 0, .int 0, .int 0])) := (congrFun hgg 18).trans (Eq.trans (b := gT3 0) rfl (Prod.ext rfl sgT3))
  have e19 : gg 19 = ((gT4 0).1, .inr (5, [.int 0, .int 0, .int 0, .int 0, .int 0, .int 0, .int 0])) := (congrFun hgg 19).trans (Eq.trans (b := gT4 0) rfl (Prod.ext rfl sgT4))
  have e20 : gg 20 = ((gT5 0).1, .inr (5, [.int 0, .int 0, .int 0, .int 0, .int 0, .int 0, .int 0])) := (congrFun hgg 20).trans (Eq.trans (b := gT5 0) rfl (Prod.ext rfl sgT5))
  have e21 : gg 21 = ((gT6 0).1, .inr (5, [.int 0, .int 0, .int 0, .int 0, .int 0, .int 0, .int 0])) := (congrFun hgg 21).trans (Eq.trans (b := gT6 0) rfl (Prod.ext rfl sgT6))
  have e22 : gg 22 = ((gT7 0).1, .inr (5, [.int 0, .int 0, .int 0, .int 0, .int 0, .int 0, .int 0])) := (congrFun hgg 22).trans (Eq.trans (b := gT7 0) rfl (Prod.ext rfl sgT7))
  have e23 : gg 23 = ((gT8 0).1, .inr (5, [.int 0, .int 0, .int 0, .int 0, .int 0, .int 0, .int 0])) := (congrFun hgg 23).trans (Eq.trans (b := gT8 0) rfl (Prod.ext rfl sgT8))
  have e24 : gg 24 = ((gT9 0).1, .inr (5, [.int 0, .int 0, .int 0, .int 0, .int 0, .int 0, .int 0])) := (congrFun hgg 24).trans (Eq.trans (b := gT9 0) rfl (Prod.ext rfl sgT9))
  clear hgg
  refine ct_refs 1 (fun t => some (gg (t + 15)).1) (by decide) e1 (fun j hj => ?_) ?_
  · rcases (show j = 0 ∨ j = 1 ∨ j = 2 ∨ j = 3 ∨ j = 4 ∨ j = 5 ∨ j = 6 ∨ j = 7 ∨ j = 8 ∨ j = 9 by omega) with rfl | rfl | rfl | rfl | rfl | rfl | rfl | rfl | rfl | rfl
    · exact (congrArg (fun x : Nat × va_E => some x.1) e15).symm
    · exact (congrArg (fun x : Nat × va_E => some x.1) e16).symm
    · exact (congrArg (fun x : Nat × va_E => some x.1) e17).symm
    · exact (congrArg (fun x : Nat × va_E => some x.1) e18).symm
    · exact (congrArg (fun x : Nat × va_E => some x.1) e19).symm
    · exact (congrArg (fun x : Nat × va_E => some x.1) e20).symm
    · exact (congrArg (fun x : Nat × va_E => some x.1) e21).symm
    · exact (congrArg (fun x : Nat × va_E => some x.1) e22).symm
    · exact (congrArg (fun x : Nat × va_E => some x.1) e23).symm
    · exact (congrArg (fun x : Nat × va_E => some x.1) e24).symm
  · refine ct_ret X (post := fun g => (g 0).1 = h0 ∧ fsp c g) ⟨congrArg Prod.fst e0, fun j => (gg j).1, fun j hj => ?_⟩ dX2_init_134
    rcases (show j = 0 ∨ j = 1 ∨ j = 2 ∨ j = 3 ∨ j = 4 ∨ j = 5 ∨ j = 6 ∨ j = 7 ∨ j = 8 ∨ j = 9 ∨ j = 10 ∨ j = 11 ∨ j = 12 ∨ j = 13 ∨ j = 14 ∨ j = 15 ∨ j = 16 ∨ j = 17 ∨ j = 18 ∨ j = 19 ∨ j = 20 ∨ j = 21 ∨ j = 22 ∨ j = 23 ∨ j = 24 by omega) with rfl | rfl | rfl | rfl | rfl | rfl | rfl | rfl | rfl | rfl | rfl | rfl | rfl | rfl | rfl | rfl | rfl | rfl | rfl | rfl | rfl | rfl | rfl | rfl | rfl
    · show gg 0 = ((gg 0).1, cr_fc (ctU c fun j => (gg j).1) 0 G0 0)
      refine Prod.ext rfl ?_
      show (gg 0).2 = .inr (2, [.ref (gg 1).1, .int 0, .ref (gg 2).1, .ref (gg 5).1, .ref (gg 8).1, .ref (gg 10).1, .ref (gg 11).1, .ref (gg 13).1, .ref (gg 14).1, .int 0])
      rw [e0, e1, e2, e5, e8, e10, e11, e13, e14]
    · exact Prod.ext (congrArg Prod.fst e1).symm rfl
    · show gg 2 = ((gg 2).1, cr_fc (ctU c fun j => (gg j).1) 0 G0 2)
      refine Prod.ext rfl ?_
      show (gg 2).2 = .inr (0, [.ref (gg 3).1, .ref (gg 4).1, .int 0])
      rw [e2, e3, e4]
    · show gg 3 = ((gg 3).1, cr_fc (ctU c fun j => (gg j).1) 0 G0 3)
      exact Prod.ext rfl ((congrArg Prod.snd e3).trans rfl)
    · show gg 4 = ((gg 4).1, cr_fc (ctU c fun j => (gg j).1) 0 G0 4)
      exact Prod.ext rfl ((congrArg Prod.snd e4).trans rfl)
    · show gg 5 = ((gg 5).1, cr_fc (ctU c fun j => (gg j).1) 0 G0 5)
      refine Prod.ext rfl ?_
      show (gg 5).2 = .inr (3, [.ref (gg 6).1, .ref (gg 7).1, .int 0])
      rw [e5, e6, e7]
    · show gg 6 = ((gg 6).1, cr_fc (ctU c fun j => (gg j).1) 0 G0 6)
      exact Prod.ext rfl ((congrArg Prod.snd e6).trans rfl)
    · show gg 7 = ((gg 7).1, cr_fc (ctU c fun j => (gg j).1) 0 G0 7)
      exact Prod.ext rfl ((congrArg Prod.snd e7).trans rfl)
    · show gg 8 = ((gg 8).1, cr_fc (ctU c fun j => (gg j).1) 0 G0 8)
      refine Prod.ext rfl ?_
      show (gg 8).2 = .inr (4, [.ref (gg 9).1, .int 0])
      rw [e8, e9]
    · show gg 9 = ((gg 9).1, cr_fc (ctU c fun j => (gg j).1) 0 G0 9)
      exact Prod.ext rfl ((congrArg Prod.snd e9).trans rfl)
    · show gg 10 = ((gg 10).1, cr_fc (ctU c fun j => (gg j).1) 0 G0 10)
      exact Prod.ext rfl ((congrArg Prod.snd e10).trans rfl)
    · show gg 11 = ((gg 11).1, cr_fc (ctU c fun j => (gg j).1) 0 G0 11)
      refine Prod.ext rfl ?_
      show (gg 11).2 = .inr (7, [.ref (gg 12).1, .int 0])
      rw [e11, e12]
    · show gg 12 = ((gg 12).1, cr_fc (ctU c fun j => (gg j).1) 0 G0 12)
      exact Prod.ext rfl ((congrArg Prod.snd e12).trans rfl)
    · show gg 13 = ((gg 13).1, cr_fc (ctU c fun j => (gg j).1) 0 G0 13)
      exact Prod.ext rfl ((congrArg Prod.snd e13).trans rfl)
    · show gg 14 = ((gg 14).1, cr_fc (ctU c fun j => (gg j).1) 0 G0 14)
      exact Prod.ext rfl ((congrArg Prod.snd e14).trans rfl)
    · show gg 15 = ((gg 15).1, cr_fc (ctU c fun j => (gg j).1) 0 G0 15)
      exact Prod.ext rfl ((congrArg Prod.snd e15).trans rfl)
    · show gg 16 = ((gg 16).1, cr_fc (ctU c fun j => (gg j).1) 0 G0 16)
      exact Prod.ext rfl ((congrArg Prod.snd e16).trans rfl)
    · show gg 17 = ((gg 17).1, cr_fc (ctU c fun j => (gg j).1) 0 G0 17)
      exact Prod.ext rfl ((congrArg Prod.snd e17).trans rfl)
    · show gg 18 = ((gg 18).1, cr_fc (ctU c fun j => (gg j).1) 0 G0 18)
      exact Prod.ext rfl ((congrArg Prod.snd e18).trans rfl)
    · show gg 19 = ((gg 19).1, cr_fc (ctU c fun j => (gg j).1) 0 G0 19)
      exact Prod.ext rfl ((congrArg Prod.snd e19).trans rfl)
    · show gg 20 = ((gg 20).1, cr_fc (ctU c fun j => (gg j).1) 0 G0 20)
      exact Prod.ext rfl ((congrArg Prod.snd e20).trans rfl)
    · show gg 21 = ((gg 21).1, cr_fc (ctU c fun j => (gg j).1) 0 G0 21)
      exact Prod.ext rfl ((congrArg Prod.snd e21).trans rfl)
    · show gg 22 = ((gg 22).1, cr_fc (ctU c fun j => (gg j).1) 0 G0 22)
      exact Prod.ext rfl ((congrArg Prod.snd e22).trans rfl)
    · show gg 23 = ((gg 23).1, cr_fc (ctU c fun j => (gg j).1) 0 G0 23)
      exact Prod.ext rfl ((congrArg Prod.snd e23).trans rfl)
    · show gg 24 = ((gg 24).1, cr_fc (ctU c fun j => (gg j).1) 0 G0 24)
      exact Prod.ext rfl ((congrArg Prod.snd e24).trans rfl)
