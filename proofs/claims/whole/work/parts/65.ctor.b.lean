/-! ### the small constructors -/
theorem c_X0_init (l : Launch) (A0 : Nat → Prop) (D : va_G) (c : Nat → ClassId) : ct_M l A0 D c yX0_init wsX0_init ({ frames := 1, cells := 2, slots := 12, locals := 40 }) (.inr (0, [.null, .null, .int 0])) 3 2 12 (fun g => (g 0).2 = .inr (0, [.ref (g 1).1, .ref (g 2).1, .int 0]) ∧ (g 1).2 = .inl (c 0, 6, .inl (fun _ => 0)) ∧ (g 2).2 = .inl (c 0, 6, .inl (fun _ => 0))) := by
  refine ct_enter (cc := cX0_init) (nL := 1) rfl rfl rfl (by decide) (fun Γ h0 A hl X => ?_)
  refine ct_aload X 0 rfl rfl dX0_init_0 ?_
  refine ct_obj X (List.mem_of_getElem? (i := 1) rfl) (List.mem_of_getElem? (i := 2) rfl) (List.mem_of_getElem? (i := 3) rfl) (Nat.le_of_ble_eq_true rfl) (Nat.le_of_ble_eq_true rfl) dX0_init_1 ?_
  refine ct_aload X 0 rfl rfl dX0_init_4 ?_
  refine ct_bipush X (6 : Int32) (by decide) dX0_init_5 ?_
  refine ct_newi X 6 (List.mem_of_getElem? (i := 4) rfl) (by decide) (by decide) (Nat.le_of_ble_eq_true rfl) (Nat.le_of_ble_eq_true rfl) (Nat.le_of_ble_eq_true rfl) dX0_init_7 (fun q1 => ?_)
  refine ct_putF X 0 (fs := [.null, .null, .int 0]) (v := .ref q1) (by decide) rfl rfl (fun w h => List.mem_cons_of_mem _ (List.mem_append_right _ h)) tyX0 tyX0_ok nmX0 0 (by decide) (List.mem_of_getElem? (i := 5) rfl) rfl rfl rfl rfl (Nat.le_of_ble_eq_true rfl) dX0_init_9 ?_
  refine ct_aload X 0 rfl rfl dX0_init_12 ?_
  refine ct_bipush X (6 : Int32) (by decide) dX0_init_13 ?_
  refine ct_newi X 6 (List.mem_of_getElem? (i := 4) rfl) (by decide) (by decide) (Nat.le_of_ble_eq_true rfl) (Nat.le_of_ble_eq_true rfl) (Nat.le_of_ble_eq_true rfl) dX0_init_15 (fun q2 => ?_)
  refine ct_putF X 0 (fs := [.ref q1, .null, .int 0]) (v := .ref q2) (by decide) rfl rfl (fun w h => List.mem_cons_of_mem _ (List.mem_append_right _ h)) tyX0 tyX0_ok nmX0 1 (by decide) (List.mem_of_getElem? (i := 6) rfl) rfl rfl rfl rfl (Nat.le_of_ble_eq_true rfl) dX0_init_17 ?_
  refine ct_aload X 0 rfl rfl dX0_init_20 ?_
  refine ct_iconst X (0 : Int32) (by decide) dX0_init_21 ?_
  refine ct_put X 0 (fs := [.ref q1, .ref q2, .int 0]) (v := .int 0) (by decide) rfl rfl (fun w h => List.mem_cons_of_mem _ (List.mem_append_right _ h)) tyX0 tyX0_ok nmX0 2 (by decide) (List.mem_of_getElem? (i := 7) rfl) rfl rfl rfl (Nat.le_of_ble_eq_true rfl) dX0_init_22 ?_
  exact ct_ret X (post := fun g => (g 0).1 = h0 ∧ _) ⟨rfl, rfl, rfl, rfl⟩ dX0_init_25
theorem c_X3_init (l : Launch) (A0 : Nat → Prop) (D : va_G) (c : Nat → ClassId) : ct_M l A0 D c yX3_init wsX3_init ({ frames := 1, cells := 2, slots := 20, locals := 40 }) (.inr (3, [.null, .null, .int 0])) 3 2 20 (fun g => (g 0).2 = .inr (3, [.ref (g 1).1, .ref (g 2).1, .int 0]) ∧ (g 1).2 = .inl (c 0, 10, .inl (fun _ => 0)) ∧ (g 2).2 = .inl (c 0, 10, .inl (fun _ => 0))) := by
  refine ct_enter (cc := cX3_init) (nL := 1) rfl rfl rfl (by decide) (fun Γ h0 A hl X => ?_)
  refine ct_aload X 0 rfl rfl dX3_init_0 ?_
  refine ct_obj X (List.mem_of_getElem? (i := 1) rfl) (List.mem_of_getElem? (i := 2) rfl) (List.mem_of_getElem? (i := 3) rfl) (Nat.le_of_ble_eq_true rfl) (Nat.le_of_ble_eq_true rfl) dX3_init_1 ?_
  refine ct_aload X 0 rfl rfl dX3_init_4 ?_
  refine ct_bipush X (10 : Int32) (by decide) dX3_init_5 ?_
  refine ct_newi X 10 (List.mem_of_getElem? (i := 4) rfl) (by decide) (by decide) (Nat.le_of_ble_eq_true rfl) (Nat.le_of_ble_eq_true rfl) (Nat.le_of_ble_eq_true rfl) dX3_init_7 (fun q1 => ?_)
  refine ct_putF X 0 (fs := [.null, .null, .int 0]) (v := .ref q1) (by decide) rfl rfl (fun w h => List.mem_cons_of_mem _ (List.mem_append_right _ h)) tyX3 tyX3_ok nmX3 0 (by decide) (List.mem_of_getElem? (i := 5) rfl) rfl rfl rfl rfl (Nat.le_of_ble_eq_true rfl) dX3_init_9 ?_
  refine ct_aload X 0 rfl rfl dX3_init_12 ?_
  refine ct_bipush X (10 : Int32) (by decide) dX3_init_13 ?_
  refine ct_newi X 10 (List.mem_of_getElem? (i := 4) rfl) (by decide) (by decide) (Nat.le_of_ble_eq_true rfl) (Nat.le_of_ble_eq_true rfl) (Nat.le_of_ble_eq_true rfl) dX3_init_15 (fun q2 => ?_)
  refine ct_putF X 0 (fs := [.ref q1, .null, .int 0]) (v := .ref q2) (by decide) rfl rfl (fun w h => List.mem_cons_of_mem _ (List.mem_append_right _ h)) tyX3 tyX3_ok nmX3 1 (by decide) (List.mem_of_getElem? (i := 6) rfl) rfl rfl rfl rfl (Nat.le_of_ble_eq_true rfl) dX3_init_17 ?_
  refine ct_aload X 0 rfl rfl dX3_init_20 ?_
  refine ct_iconst X (0 : Int32) (by decide) dX3_init_21 ?_
  refine ct_put X 0 (fs := [.ref q1, .ref q2, .int 0]) (v := .int 0) (by decide) rfl rfl (fun w h => List.mem_cons_of_mem _ (List.mem_append_right _ h)) tyX3 tyX3_ok nmX3 2 (by decide) (List.mem_of_getElem? (i := 7) rfl) rfl rfl rfl (Nat.le_of_ble_eq_true rfl) dX3_init_22 ?_
  exact ct_ret X (post := fun g => (g 0).1 = h0 ∧ _) ⟨rfl, rfl, rfl, rfl⟩ dX3_init_25
theorem c_X4_init (l : Launch) (A0 : Nat → Prop) (D : va_G) (c : Nat → ClassId) : ct_M l A0 D c yX4_init wsX4_init ({ frames := 1, cells := 1, slots := 10, locals := 40 }) (.inr (4, [.null, .int 0])) 2 1 10 (fun g => (g 0).2 = .inr (4, [.ref (g 1).1, .int 0]) ∧ (g 1).2 = .inl (c 0, 10, .inl (fun _ => 0))) := by
  refine ct_enter (cc := cX4_init) (nL := 1) rfl rfl rfl (by decide) (fun Γ h0 A hl X => ?_)
  refine ct_aload X 0 rfl rfl dX4_init_0 ?_
  refine ct_obj X (List.mem_of_getElem? (i := 1) rfl) (List.mem_of_getElem? (i := 2) rfl) (List.mem_of_getElem? (i := 3) rfl) (Nat.le_of_ble_eq_true rfl) (Nat.le_of_ble_eq_true rfl) dX4_init_1 ?_
  refine ct_aload X 0 rfl rfl dX4_init_4 ?_
  refine ct_bipush X (10 : Int32) (by decide) dX4_init_5 ?_
  refine ct_newi X 10 (List.mem_of_getElem? (i := 4) rfl) (by decide) (by decide) (Nat.le_of_ble_eq_true rfl) (Nat.le_of_ble_eq_true rfl) (Nat.le_of_ble_eq_true rfl) dX4_init_7 (fun q1 => ?_)
  refine ct_putF X 0 (fs := [.null, .int 0]) (v := .ref q1) (by decide) rfl rfl (fun w h => List.mem_cons_of_mem _ (List.mem_append_right _ h)) tyX4 tyX4_ok nmX4 0 (by decide) (List.mem_of_getElem? (i := 5) rfl) rfl rfl rfl rfl (Nat.le_of_ble_eq_true rfl) dX4_init_9 ?_
  refine ct_aload X 0 rfl rfl dX4_init_12 ?_
  refine ct_iconst X (0 : Int32) (by decide) dX4_init_13 ?_
  refine ct_put X 0 (fs := [.ref q1, .int 0]) (v := .int 0) (by decide) rfl rfl (fun w h => List.mem_cons_of_mem _ (List.mem_append_right _ h)) tyX4 tyX4_ok nmX4 1 (by decide) (List.mem_of_getElem? (i := 6) rfl) rfl rfl rfl (Nat.le_of_ble_eq_true rfl) dX4_init_14 ?_
  exact ct_ret X (post := fun g => (g 0).1 = h0 ∧ _) ⟨rfl, rfl, rfl⟩ dX4_init_17
theorem c_X7_init (l : Launch) (A0 : Nat → Prop) (D : va_G) (c : Nat → ClassId) : ct_M l A0 D c yX7_init wsX7_init ({ frames := 1, cells := 1, slots := 48, locals := 40 }) (.inr (7, [.null, .int 0])) 2 1 48 (fun g => (g 0).2 = .inr (7, [.ref (g 1).1, .int 0]) ∧ (g 1).2 = .inl (c 0, 48, .inl (fun _ => 0))) := by
  refine ct_enter (cc := cX7_init) (nL := 1) rfl rfl rfl (by decide) (fun Γ h0 A hl X => ?_)
  refine ct_aload X 0 rfl rfl dX7_init_0 ?_
  refine ct_obj X (List.mem_of_getElem? (i := 1) rfl) (List.mem_of_getElem? (i := 2) rfl) (List.mem_of_getElem? (i := 3) rfl) (Nat.le_of_ble_eq_true rfl) (Nat.le_of_ble_eq_true rfl) dX7_init_1 ?_
  refine ct_aload X 0 rfl rfl dX7_init_4 ?_
  refine ct_bipush X (48 : Int32) (by decide) dX7_init_5 ?_
  refine ct_newi X 48 (List.mem_of_getElem? (i := 4) rfl) (by decide) (by decide) (Nat.le_of_ble_eq_true rfl) (Nat.le_of_ble_eq_true rfl) (Nat.le_of_ble_eq_true rfl) dX7_init_7 (fun q1 => ?_)
  refine ct_putF X 0 (fs := [.null, .int 0]) (v := .ref q1) (by decide) rfl rfl (fun w h => List.mem_cons_of_mem _ (List.mem_append_right _ h)) tyX7 tyX7_ok nmX7 0 (by decide) (List.mem_of_getElem? (i := 5) rfl) rfl rfl rfl rfl (Nat.le_of_ble_eq_true rfl) dX7_init_9 ?_
  refine ct_aload X 0 rfl rfl dX7_init_12 ?_
  refine ct_iconst X (0 : Int32) (by decide) dX7_init_13 ?_
  refine ct_put X 0 (fs := [.ref q1, .int 0]) (v := .int 0) (by decide) rfl rfl (fun w h => List.mem_cons_of_mem _ (List.mem_append_right _ h)) tyX7 tyX7_ok nmX7 1 (by decide) (List.mem_of_getElem? (i := 6) rfl) rfl rfl rfl (Nat.le_of_ble_eq_true rfl) dX7_init_14 ?_
  exact ct_ret X (post := fun g => (g 0).1 = h0 ∧ _) ⟨rfl, rfl, rfl⟩ dX7_init_17
theorem c_X6_init (l : Launch) (A0 : Nat → Prop) (D : va_G) (c : Nat → ClassId) : ct_M l A0 D c yX6_init wsX6_init ({ frames := 1, cells := 1, slots := 60, locals := 40 }) (.inr (6, [.null, .int 0])) 2 1 60 (fun g => (g 0).2 = .inr (6, [.ref (g 1).1, .int 0]) ∧ (g 1).2 = .inl (c 0, 60, .inl (fun _ => 0))) := by
  refine ct_enter (cc := cX6_init) (nL := 1) rfl rfl rfl (by decide) (fun Γ h0 A hl X => ?_)
  refine ct_aload X 0 rfl rfl dX6_init_0 ?_
  refine ct_obj X (List.mem_of_getElem? (i := 1) rfl) (List.mem_of_getElem? (i := 2) rfl) (List.mem_of_getElem? (i := 3) rfl) (Nat.le_of_ble_eq_true rfl) (Nat.le_of_ble_eq_true rfl) dX6_init_1 ?_
  refine ct_aload X 0 rfl rfl dX6_init_4 ?_
  refine ct_bipush X (60 : Int32) (by decide) dX6_init_5 ?_
  refine ct_newi X 60 (List.mem_of_getElem? (i := 4) rfl) (by decide) (by decide) (Nat.le_of_ble_eq_true rfl) (Nat.le_of_ble_eq_true rfl) (Nat.le_of_ble_eq_true rfl) dX6_init_7 (fun q1 => ?_)
  refine ct_putF X 0 (fs := [.null, .int 0]) (v := .ref q1) (by decide) rfl rfl (fun w h => List.mem_cons_of_mem _ (List.mem_append_right _ h)) tyX6 tyX6_ok nmX6 0 (by decide) (List.mem_of_getElem? (i := 5) rfl) rfl rfl rfl rfl (Nat.le_of_ble_eq_true rfl) dX6_init_9 ?_
  refine ct_aload X 0 rfl rfl dX6_init_12 ?_
  refine ct_iconst X (0 : Int32) (by decide) dX6_init_13 ?_
  refine ct_put X 0 (fs := [.ref q1, .int 0]) (v := .int 0) (by decide) rfl rfl (fun w h => List.mem_cons_of_mem _ (List.mem_append_right _ h)) tyX6 tyX6_ok nmX6 1 (by decide) (List.mem_of_getElem? (i := 6) rfl) rfl rfl rfl (Nat.le_of_ble_eq_true rfl) dX6_init_14 ?_
  exact ct_ret X (post := fun g => (g 0).1 = h0 ∧ _) ⟨rfl, rfl, rfl⟩ dX6_init_17
theorem c_X1_init (l : Launch) (A0 : Nat → Prop) (D : va_G) (c : Nat → ClassId) : ct_M l A0 D c yX1_init wsX1_init ({ frames := 1, cells := 0, slots := 0, locals := 40 }) (.inr (1, [.int 0, .int 0, .int 0, .int 0, .int 0])) 1 0 0 (fun g => (g 0).2 = .inr (1, [.int 0, .int 0, .int (-1), .int 0, .int (-1)])) := by
  refine ct_enter (cc := cX1_init) (nL := 1) rfl rfl rfl (by decide) (fun Γ h0 A hl X => ?_)
  refine ct_aload X 0 rfl rfl dX1_init_0 ?_
  refine ct_obj X (List.mem_of_getElem? (i := 1) rfl) (List.mem_of_getElem? (i := 2) rfl) (List.mem_of_getElem? (i := 3) rfl) (Nat.le_of_ble_eq_true rfl) (Nat.le_of_ble_eq_true rfl) dX1_init_1 ?_
  refine ct_aload X 0 rfl rfl dX1_init_4 ?_
  refine ct_iconst X (0 : Int32) (by decide) dX1_init_5 ?_
  refine ct_put X 0 (fs := [.int 0, .int 0, .int 0, .int 0, .int 0]) (v := .int 0) (by decide) rfl rfl (fun w h => List.mem_cons_of_mem _ (List.mem_append_right _ h)) tyX1 tyX1_ok nmX1 0 (by decide) (List.mem_of_getElem? (i := 4) rfl) rfl rfl rfl (Nat.le_of_ble_eq_true rfl) dX1_init_6 ?_
  refine ct_aload X 0 rfl rfl dX1_init_9 ?_
  refine ct_iconst X (0 : Int32) (by decide) dX1_init_10 ?_
  refine ct_put X 0 (fs := [.int 0, .int 0, .int 0, .int 0, .int 0]) (v := .int 0) (by decide) rfl rfl (fun w h => List.mem_cons_of_mem _ (List.mem_append_right _ h)) tyX1 tyX1_ok nmX1 1 (by decide) (List.mem_of_getElem? (i := 5) rfl) rfl rfl rfl (Nat.le_of_ble_eq_true rfl) dX1_init_11 ?_
  refine ct_aload X 0 rfl rfl dX1_init_14 ?_
  refine ct_iconst X (-1 : Int32) (by decide) dX1_init_15 ?_
  refine ct_put X 0 (fs := [.int 0, .int 0, .int 0, .int 0, .int 0]) (v := .int (-1)) (by decide) rfl rfl (fun w h => List.mem_cons_of_mem _ (List.mem_append_right _ h)) tyX1 tyX1_ok nmX1 2 (by decide) (List.mem_of_getElem? (i := 6) rfl) rfl rfl rfl (Nat.le_of_ble_eq_true rfl) dX1_init_16 ?_
  refine ct_aload X 0 rfl rfl dX1_init_19 ?_
  refine ct_iconst X (0 : Int32) (by decide) dX1_init_20 ?_
  refine ct_put X 0 (fs := [.int 0, .int 0, .int (-1), .int 0, .int 0]) (v := .int 0) (by decide) rfl rfl (fun w h => List.mem_cons_of_mem _ (List.mem_append_right _ h)) tyX1 tyX1_ok nmX1 3 (by decide) (List.mem_of_getElem? (i := 7) rfl) rfl rfl rfl (Nat.le_of_ble_eq_true rfl) dX1_init_21 ?_
  refine ct_aload X 0 rfl rfl dX1_init_24 ?_
  refine ct_iconst X (-1 : Int32) (by decide) dX1_init_25 ?_
  refine ct_put X 0 (fs := [.int 0, .int 0, .int (-1), .int 0, .int 0]) (v := .int (-1)) (by decide) rfl rfl (fun w h => List.mem_cons_of_mem _ (List.mem_append_right _ h)) tyX1 tyX1_ok nmX1 4 (by decide) (List.mem_of_getElem? (i := 8) rfl) rfl rfl rfl (Nat.le_of_ble_eq_true rfl) dX1_init_26 ?_
  exact ct_ret X (post := fun g => (g 0).1 = h0 ∧ _) ⟨rfl, rfl⟩ dX1_init_29
theorem c_X5_init (l : Launch) (A0 : Nat → Prop) (D : va_G) (c : Nat → ClassId) : ct_M l A0 D c yX5_init wsX5_init ({ frames := 1, cells := 0, slots := 0, locals := 40 }) (.inr (5, [.int 0, .int 0, .int 0, .int 0, .int 0, .int 0, .int 0])) 1 0 0 (fun g => (g 0).2 = .inr (5, [.int 0, .int 0, .int 0, .int 0, .int 0, .int 0, .int 0])) := by
  refine ct_enter (cc := cX5_init) (nL := 1) rfl rfl rfl (by decide) (fun Γ h0 A hl X => ?_)
  refine ct_aload X 0 rfl rfl dX5_init_0 ?_
  refine ct_obj X (List.mem_of_getElem? (i := 1) rfl) (List.mem_of_getElem? (i := 2) rfl) (List.mem_of_getElem? (i := 3) rfl) (Nat.le_of_ble_eq_true rfl) (Nat.le_of_ble_eq_true rfl) dX5_init_1 ?_
  exact ct_ret X (post := fun g => (g 0).1 = h0 ∧ _) ⟨rfl, rfl⟩ dX5_init_4
def gZ9 : Nat → Int32 := (upd (upd (upd (upd (upd (upd (upd (upd (fun _ => 0) (71 : Int32).toNatClampNeg (16)) (72 : Int32).toNatClampNeg (5)) (73 : Int32).toNatClampNeg (3)) (74 : Int32).toNatClampNeg (24)) (75 : Int32).toNatClampNeg (2)) (76 : Int32).toNatClampNeg (10)) (141 : Int32).toNatClampNeg (-1)) (144 : Int32).toNatClampNeg (-1))
def sp9 (c : Nat → ClassId) (g : Nat → Nat × va_E) : Prop := (g 0).2 = .inr (9, [.ref (g 1).1, .ref (g 2).1, .ref (g 3).1, .ref (g 4).1, .ref (g 5).1, .int 0, .int 0, .int 0, .long 0, .int 0, .int 0, .int 0, .int 0, .int 0, .ref (g 6).1]) ∧ (g 1).2 = .inl (c 0, 184, .inl gZ9) ∧ (g 2).2 = .inl (c 0, 184, .inl (fun _ => 0)) ∧ (g 3).2 = .inl (c 0, 1104, .inl (fun _ => 0)) ∧ (g 4).2 = .inl (c 0, 60, .inl (fun _ => 0)) ∧ (g 5).2 = .inl (c 0, 10, .inl (fun _ => 0)) ∧ (g 6).2 = .inl (c 0, 48, .inl (fun _ => 0))
theorem c_X9_init (l : Launch) (A0 : Nat → Prop) (D : va_G) (c : Nat → ClassId) : ct_M l A0 D c yX9_init wsX9_init ({ frames := 1, cells := 6, slots := 1590, locals := 60 }) (.inr (9, [.null, .null, .null, .null, .null, .int 0, .int 0, .int 0, .long 0, .int 0, .int 0, .int 0, .int 0, .int 0, .null])) 7 6 1590 (sp9 c) := by
  refine ct_enter (cc := cX9_init) (nL := 1) rfl rfl rfl (by decide) (fun Γ h0 A hl X => ?_)
  refine ct_aload X 0 rfl rfl dX9_init_0 ?_
  refine ct_obj X (List.mem_of_getElem? (i := 1) rfl) (List.mem_of_getElem? (i := 2) rfl) (List.mem_of_getElem? (i := 3) rfl) (Nat.le_of_ble_eq_true rfl) (Nat.le_of_ble_eq_true rfl) dX9_init_1 ?_
  refine ct_aload X 0 rfl rfl dX9_init_4 ?_
  refine ct_sipush X (184 : Int32) (by decide) dX9_init_5 ?_
  refine ct_newi X 184 (List.mem_of_getElem? (i := 4) rfl) (by decide) (by decide) (Nat.le_of_ble_eq_true rfl) (Nat.le_of_ble_eq_true rfl) (Nat.le_of_ble_eq_true rfl) dX9_init_8 (fun q1 => ?_)
  refine ct_putF X 0 (fs := [.null, .null, .null, .null, .null, .int 0, .int 0, .int 0, .long 0, .int 0, .int 0, .int 0, .int 0, .int 0, .null]) (v := .ref q1) (by decide) rfl rfl (fun w h => List.mem_cons_of_mem _ (List.mem_append_right _ h)) tyX9 tyX9_ok nmX9 0 (by decide) (List.mem_of_getElem? (i := 5) rfl) rfl rfl rfl rfl (Nat.le_of_ble_eq_true rfl) dX9_init_10 ?_
  refine ct_aload X 0 rfl rfl dX9_init_13 ?_
  refine ct_sipush X (184 : Int32) (by decide) dX9_init_14 ?_
  refine ct_newi X 184 (List.mem_of_getElem? (i := 4) rfl) (by decide) (by decide) (Nat.le_of_ble_eq_true rfl) (Nat.le_of_ble_eq_true rfl) (Nat.le_of_ble_eq_true rfl) dX9_init_17 (fun q2 => ?_)
  refine ct_putF X 0 (fs := [.ref q1, .null, .null, .null, .null, .int 0, .int 0, .int 0, .long 0, .int 0, .int 0, .int 0, .int 0, .int 0, .null]) (v := .ref q2) (by decide) rfl rfl (fun w h => List.mem_cons_of_mem _ (List.mem_append_right _ h)) tyX9 tyX9_ok nmX9 1 (by decide) (List.mem_of_getElem? (i := 6) rfl) rfl rfl rfl rfl (Nat.le_of_ble_eq_true rfl) dX9_init_19 ?_
  refine ct_aload X 0 rfl rfl dX9_init_22 ?_
  refine ct_sipush X (1104 : Int32) (by decide) dX9_init_23 ?_
  refine ct_newi X 1104 (List.mem_of_getElem? (i := 4) rfl) (by decide) (by decide) (Nat.le_of_ble_eq_true rfl) (Nat.le_of_ble_eq_true rfl) (Nat.le_of_ble_eq_true rfl) dX9_init_26 (fun q3 => ?_)
  refine ct_putF X 0 (fs := [.ref q1, .ref q2, .null, .null, .null, .int 0, .int 0, .int 0, .long 0, .int 0, .int 0, .int 0, .int 0, .int 0, .null]) (v := .ref q3) (by decide) rfl rfl (fun w h => List.mem_cons_of_mem _ (List.mem_append_right _ h)) tyX9 tyX9_ok nmX9 2 (by decide) (List.mem_of_getElem? (i := 7) rfl) rfl rfl rfl rfl (Nat.le_of_ble_eq_true rfl) dX9_init_28 ?_
  refine ct_aload X 0 rfl rfl dX9_init_31 ?_
  refine ct_bipush X (60 : Int32) (by decide) dX9_init_32 ?_
  refine ct_newi X 60 (List.mem_of_getElem? (i := 4) rfl) (by decide) (by decide) (Nat.le_of_ble_eq_true rfl) (Nat.le_of_ble_eq_true rfl) (Nat.le_of_ble_eq_true rfl) dX9_init_34 (fun q4 => ?_)
  refine ct_putF X 0 (fs := [.ref q1, .ref q2, .ref q3, .null, .null, .int 0, .int 0, .int 0, .long 0, .int 0, .int 0, .int 0, .int 0, .int 0, .null]) (v := .ref q4) (by decide) rfl rfl (fun w h => List.mem_cons_of_mem _ (List.mem_append_right _ h)) tyX9 tyX9_ok nmX9 3 (by decide) (List.mem_of_getElem? (i := 8) rfl) rfl rfl rfl rfl (Nat.le_of_ble_eq_true rfl) dX9_init_36 ?_
  refine ct_aload X 0 rfl rfl dX9_init_39 ?_
  refine ct_bipush X (10 : Int32) (by decide) dX9_init_40 ?_
  refine ct_newi X 10 (List.mem_of_getElem? (i := 4) rfl) (by decide) (by decide) (Nat.le_of_ble_eq_true rfl) (Nat.le_of_ble_eq_true rfl) (Nat.le_of_ble_eq_true rfl) dX9_init_42 (fun q5 => ?_)
  refine ct_putF X 0 (fs := [.ref q1, .ref q2, .ref q3, .ref q4, .null, .int 0, .int 0, .int 0, .long 0, .int 0, .int 0, .int 0, .int 0, .int 0, .null]) (v := .ref q5) (by decide) rfl rfl (fun w h => List.mem_cons_of_mem _ (List.mem_append_right _ h)) tyX9 tyX9_ok nmX9 4 (by decide) (List.mem_of_getElem? (i := 9) rfl) rfl rfl rfl rfl (Nat.le_of_ble_eq_true rfl) dX9_init_44 ?_
  refine ct_aload X 0 rfl rfl dX9_init_47 ?_
  refine ct_bipush X (48 : Int32) (by decide) dX9_init_48 ?_
  refine ct_newi X 48 (List.mem_of_getElem? (i := 4) rfl) (by decide) (by decide) (Nat.le_of_ble_eq_true rfl) (Nat.le_of_ble_eq_true rfl) (Nat.le_of_ble_eq_true rfl) dX9_init_50 (fun q6 => ?_)
  refine ct_putF X 0 (fs := [.ref q1, .ref q2, .ref q3, .ref q4, .ref q5, .int 0, .int 0, .int 0, .long 0, .int 0, .int 0, .int 0, .int 0, .int 0, .null]) (v := .ref q6) (by decide) rfl rfl (fun w h => List.mem_cons_of_mem _ (List.mem_append_right _ h)) tyX9 tyX9_ok nmX9 14 (by decide) (List.mem_of_getElem? (i := 10) rfl) rfl rfl rfl rfl (Nat.le_of_ble_eq_true rfl) dX9_init_52 ?_
  refine ct_aload X 0 rfl rfl dX9_init_55 ?_
  refine ct_get X 0 (fs := [.ref q1, .ref q2, .ref q3, .ref q4, .ref q5, .int 0, .int 0, .int 0, .long 0, .int 0, .int 0, .int 0, .int 0, .int 0, .ref q6]) (v := .ref q1) (by decide) rfl rfl (fun w h => List.mem_cons_of_mem _ (List.mem_append_right _ h)) 0 (by decide) (List.mem_of_getElem? (i := 5) rfl) rfl dX9_init_56 ?_
  refine ct_bipush X (71 : Int32) (by decide) dX9_init_59 ?_
  refine ct_bipush X (16 : Int32) (by decide) dX9_init_61 ?_
  refine ct_iast X 1 (N' := 184) (f := (fun _ => 0)) (by decide) rfl (by unfold vp_in; decide) dX9_init_63 ?_
  refine ct_aload X 0 rfl rfl dX9_init_64 ?_
  refine ct_get X 0 (fs := [.ref q1, .ref q2, .ref q3, .ref q4, .ref q5, .int 0, .int 0, .int 0, .long 0, .int 0, .int 0, .int 0, .int 0, .int 0, .ref q6]) (v := .ref q1) (by decide) rfl rfl (fun w h => List.mem_cons_of_mem _ (List.mem_append_right _ h)) 0 (by decide) (List.mem_of_getElem? (i := 5) rfl) rfl dX9_init_65 ?_
  refine ct_bipush X (72 : Int32) (by decide) dX9_init_68 ?_
  refine ct_iconst X (5 : Int32) (by decide) dX9_init_70 ?_
  refine ct_iast X 1 (N' := 184) (f := (upd (fun _ => 0) (71 : Int32).toNatClampNeg (16))) (by decide) rfl (by unfold vp_in; decide) dX9_init_71 ?_
  refine ct_aload X 0 rfl rfl dX9_init_72 ?_
  refine ct_get X 0 (fs := [.ref q1, .ref q2, .ref q3, .ref q4, .ref q5, .int 0, .int 0, .int 0, .long 0, .int 0, .int 0, .int 0, .int 0, .int 0, .ref q6]) (v := .ref q1) (by decide) rfl rfl (fun w h => List.mem_cons_of_mem _ (List.mem_append_right _ h)) 0 (by decide) (List.mem_of_getElem? (i := 5) rfl) rfl dX9_init_73 ?_
  refine ct_bipush X (73 : Int32) (by decide) dX9_init_76 ?_
  refine ct_iconst X (3 : Int32) (by decide) dX9_init_78 ?_
  refine ct_iast X 1 (N' := 184) (f := (upd (upd (fun _ => 0) (71 : Int32).toNatClampNeg (16)) (72 : Int32).toNatClampNeg (5))) (by decide) rfl (by unfold vp_in; decide) dX9_init_79 ?_
  refine ct_aload X 0 rfl rfl dX9_init_80 ?_
  refine ct_get X 0 (fs := [.ref q1, .ref q2, .ref q3, .ref q4, .ref q5, .int 0, .int 0, .int 0, .long 0, .int 0, .int 0, .int 0, .int 0, .int 0, .ref q6]) (v := .ref q1) (by decide) rfl rfl (fun w h => List.mem_cons_of_mem _ (List.mem_append_right _ h)) 0 (by decide) (List.mem_of_getElem? (i := 5) rfl) rfl dX9_init_81 ?_
  refine ct_bipush X (74 : Int32) (by decide) dX9_init_84 ?_
  refine ct_bipush X (24 : Int32) (by decide) dX9_init_86 ?_
  refine ct_iast X 1 (N' := 184) (f := (upd (upd (upd (fun _ => 0) (71 : Int32).toNatClampNeg (16)) (72 : Int32).toNatClampNeg (5)) (73 : Int32).toNatClampNeg (3))) (by decide) rfl (by unfold vp_in; decide) dX9_init_88 ?_
  refine ct_aload X 0 rfl rfl dX9_init_89 ?_
  refine ct_get X 0 (fs := [.ref q1, .ref q2, .ref q3, .ref q4, .ref q5, .int 0, .int 0, .int 0, .long 0, .int 0, .int 0, .int 0, .int 0, .int 0, .ref q6]) (v := .ref q1) (by decide) rfl rfl (fun w h => List.mem_cons_of_mem _ (List.mem_append_right _ h)) 0 (by decide) (List.mem_of_getElem? (i := 5) rfl) rfl dX9_init_90 ?_
  refine ct_bipush X (75 : Int32) (by decide) dX9_init_93 ?_
  refine ct_iconst X (2 : Int32) (by decide) dX9_init_95 ?_
  refine ct_iast X 1 (N' := 184) (f := (upd (upd (upd (upd (fun _ => 0) (71 : Int32).toNatClampNeg (16)) (72 : Int32).toNatClampNeg (5)) (73 : Int32).toNatClampNeg (3)) (74 : Int32).toNatClampNeg (24))) (by decide) rfl (by unfold vp_in; decide) dX9_init_96 ?_
  refine ct_aload X 0 rfl rfl dX9_init_97 ?_
  refine ct_get X 0 (fs := [.ref q1, .ref q2, .ref q3, .ref q4, .ref q5, .int 0, .int 0, .int 0, .long 0, .int 0, .int 0, .int 0, .int 0, .int 0, .ref q6]) (v := .ref q1) (by decide) rfl rfl (fun w h => List.mem_cons_of_mem _ (List.mem_append_right _ h)) 0 (by decide) (List.mem_of_getElem? (i := 5) rfl) rfl dX9_init_98 ?_
  refine ct_bipush X (76 : Int32) (by decide) dX9_init_101 ?_
  refine ct_bipush X (10 : Int32) (by decide) dX9_init_103 ?_
  refine ct_iast X 1 (N' := 184) (f := (upd (upd (upd (upd (upd (fun _ => 0) (71 : Int32).toNatClampNeg (16)) (72 : Int32).toNatClampNeg (5)) (73 : Int32).toNatClampNeg (3)) (74 : Int32).toNatClampNeg (24)) (75 : Int32).toNatClampNeg (2))) (by decide) rfl (by unfold vp_in; decide) dX9_init_105 ?_
  refine ct_aload X 0 rfl rfl dX9_init_106 ?_
  refine ct_get X 0 (fs := [.ref q1, .ref q2, .ref q3, .ref q4, .ref q5, .int 0, .int 0, .int 0, .long 0, .int 0, .int 0, .int 0, .int 0, .int 0, .ref q6]) (v := .ref q1) (by decide) rfl rfl (fun w h => List.mem_cons_of_mem _ (List.mem_append_right _ h)) 0 (by decide) (List.mem_of_getElem? (i := 5) rfl) rfl dX9_init_107 ?_
  refine ct_sipush X (141 : Int32) (by decide) dX9_init_110 ?_
  refine ct_iconst X (-1 : Int32) (by decide) dX9_init_113 ?_
  refine ct_iast X 1 (N' := 184) (f := (upd (upd (upd (upd (upd (upd (fun _ => 0) (71 : Int32).toNatClampNeg (16)) (72 : Int32).toNatClampNeg (5)) (73 : Int32).toNatClampNeg (3)) (74 : Int32).toNatClampNeg (24)) (75 : Int32).toNatClampNeg (2)) (76 : Int32).toNatClampNeg (10))) (by decide) rfl (by unfold vp_in; decide) dX9_init_114 ?_
  refine ct_aload X 0 rfl rfl dX9_init_115 ?_
  refine ct_get X 0 (fs := [.ref q1, .ref q2, .ref q3, .ref q4, .ref q5, .int 0, .int 0, .int 0, .long 0, .int 0, .int 0, .int 0, .int 0, .int 0, .ref q6]) (v := .ref q1) (by decide) rfl rfl (fun w h => List.mem_cons_of_mem _ (List.mem_append_right _ h)) 0 (by decide) (List.mem_of_getElem? (i := 5) rfl) rfl dX9_init_116 ?_
  refine ct_sipush X (144 : Int32) (by decide) dX9_init_119 ?_
  refine ct_iconst X (-1 : Int32) (by decide) dX9_init_122 ?_
  refine ct_iast X 1 (N' := 184) (f := (upd (upd (upd (upd (upd (upd (upd (fun _ => 0) (71 : Int32).toNatClampNeg (16)) (72 : Int32).toNatClampNeg (5)) (73 : Int32).toNatClampNeg (3)) (74 : Int32).toNatClampNeg (24)) (75 : Int32).toNatClampNeg (2)) (76 : Int32).toNatClampNeg (10)) (141 : Int32).toNatClampNeg (-1))) (by decide) rfl (by unfold vp_in; decide) dX9_init_123 ?_
  exact ct_ret X (post := fun g => (g 0).1 = h0 ∧ sp9 c g) ⟨rfl, rfl, rfl, rfl, rfl, rfl, rfl, rfl⟩ dX9_init_124
