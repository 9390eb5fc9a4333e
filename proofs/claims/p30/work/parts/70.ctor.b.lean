/-! ### the small constructors -/
theorem c_X0_init (l : Launch) (A0 : Nat → Prop) (D : va_G) (c : Nat → ClassId) : ct_M l A0 D c yX0_init wsX0_init ({ frames := 1, cells := 2, slots := 12, locals := 40 }) (.inr (0, [.null, .null, .int 0])) 3 2 12 (fun g => (g 0).2 = .inr (0, [.ref (g 1).1, .ref (g 2).1, .int 0]) ∧ (g 1).2 = .inl (c 0, 6, .inl (fun _ => 0)) ∧ (g 2).2 = .inl (c 0, 6, .inl (fun _ => 0))) := by
  refine ct_enter (cc := cX0_init) (nL := 1) rfl rfl rfl (by decide) (fun Γ h0 A hl X => ?_)
  refine ct_aload X 0 rfl rfl dX0_init_0 ?_
  refine ct_obj X (List.mem_of_getElem? (i := 1) rfl) (List.mem_of_getElem? (i := 2) rfl) (List.mem_of_getElem? (i := 3) rfl) (Nat.le_of_ble_eq_true rfl) (Nat.le_of_ble_eq_true rfl) dX0_init_1 ?_
  refine ct_aload X 0 rfl rfl dX0_init_4 ?_
  refine ct_bipush X (6 : Int32) (by decide) dX0_init_5 ?_
  refine ct_newi X 6 (List.mem_of_getElem? (i := 4) rfl) (by decide) (by decide) (Nat.le_of_ble_eq_true rfl) (Nat.le_of_ble_eq_true rfl) (Nat.le_of_ble_eq_true rfl) dX0_init_7 (fun q1 => ?_)
  refine ct_putF X 0 (fs := [.null, .null, .int 0]) (v := .ref q1) (by decide) rfl rfl (fun w h => List.mem_cons_of_mem _ (List.mem_append_right _ h)) tyX0 tyX0_ok nmX0 0 (by decide) (List.mem_of_getElem? (i := 5) rfl) rfl rfl rfl rfl (Nat.le_of_ble_eq_true rfl) dX0_init_9 ?_
  refine ct_aload X 0 rfl rfl dX0_init_12 ?_
  refine ct_bipush X (6 : Int32) (by decide) dX0_init_13 ?_
  refine ct_newi X 6 (List.mem_of_getElem? (i := 4) rfl) (by decide) (by decide) (Nat.le_of_ble_eq_true rfl) (Nat.le_of_ble_eq_true rfl) (Nat.le_of_ble_eq_true rfl) dX0_init_15 (fun q2 => ?_)
  refine ct_putF X 0 (fs := [.ref q1, .null, .int 0]) (v := .ref q2) (by decide) rfl rfl (fun w h => List.mem_cons_of_mem _ (List.mem_append_right _ h)) tyX0 tyX0_ok nmX0 1 (by decide) (List.mem_of_getElem? (i := 6) rfl) rfl rfl rfl rfl (Nat.le_of_ble_eq_true rfl) dX0_init_17 ?_
  refine ct_aload X 0 rfl rfl dX0_init_20 ?_
  refine ct_iconst X (0 : Int32) (by decide) dX0_init_21 ?_
  refine ct_put X 0 (fs := [.ref q1, .ref q2, .int 0]) (v := .int 0) (by decide) rfl rfl (fun w h => List.mem_cons_of_mem _ (List.mem_append_right _ h)) tyX0 tyX0_ok nmX0 2 (by decide) (List.mem_of_getElem? (i := 7) rfl) rfl rfl rfl (Nat.le_of_ble_eq_true rfl) dX0_init_22 ?_
  exact ct_ret X (post := fun g => (g 0).1 = h0 ∧ _) ⟨rfl, rfl, rfl, rfl⟩ dX0_init_25
theorem c_X3_init (l : Launch) (A0 : Nat → Prop) (D : va_G) (c : Nat → ClassId) : ct_M l A0 D c yX3_init wsX3_init ({ frames := 1, cells := 2, slots := 20, locals := 40 }) (.inr (3, [.null, .null, .int 0])) 3 2 20 (fun g => (g 0).2 = .inr (3, [.ref (g 1).1, .ref (g 2).1, .int 0]) ∧ (g 1).2 = .inl (c 0, 10, .inl (fun _ => 0)) ∧ (g 2).2 = .inl (c 0, 10, .inl (fun _ => 0))) := by
  refine ct_enter (cc := cX3_init) (nL := 1) rfl rfl rfl (by decide) (fun Γ h0 A hl X => ?_)
  refine ct_aload X 0 rfl rfl dX3_init_0 ?_
  refine ct_obj X (List.mem_of_getElem? (i := 1) rfl) (List.mem_of_getElem? (i := 2) rfl) (List.mem_of_getElem? (i := 3) rfl) (Nat.le_of_ble_eq_true rfl) (Nat.le_of_ble_eq_true rfl) dX3_init_1 ?_
  refine ct_aload X 0 rfl rfl dX3_init_4 ?_
  refine ct_bipush X (10 : Int32) (by decide) dX3_init_5 ?_
  refine ct_newi X 10 (List.mem_of_getElem? (i := 4) rfl) (by decide) (by decide) (Nat.le_of_ble_eq_true rfl) (Nat.le_of_ble_eq_true rfl) (Nat.le_of_ble_eq_true rfl) dX3_init_7 (fun q1 => ?_)
  refine ct_putF X 0 (fs := [.null, .null, .int 0]) (v := .ref q1) (by decide) rfl rfl (fun w h => List.mem_cons_of_mem _ (List.mem_append_right _ h)) tyX3 tyX3_ok nmX3 0 (by decide) (List.mem_of_getElem? (i := 5) rfl) rfl rfl rfl rfl (Nat.le_of_ble_eq_true rfl) dX3_init_9 ?_
  refine ct_aload X 0 rfl rfl dX3_init_12 ?_
  refine ct_bipush X (10 : Int32) (by decide) dX3_init_13 ?_
  refine ct_newi X 10 (List.mem_of_getElem? (i := 4) rfl) (by decide) (by decide) (Nat.le_of_ble_eq_true rfl) (Nat.le_of_ble_eq_true rfl) (Nat.le_of_ble_eq_true rfl) dX3_init_15 (fun q2 => ?_)
  refine ct_putF X 0 (fs := [.ref q1, .null, .int 0]) (v := .ref q2) (by decide) rfl rfl (fun w h => List.mem_cons_of_mem _ (List.mem_append_right _ h)) tyX3 tyX3_ok nmX3 1 (by decide) (List.mem_of_getElem? (i := 6) rfl) rfl rfl rfl rfl (Nat.le_of_ble_eq_true rfl) dX3_init_17 ?_
  refine ct_aload X 0 rfl rfl dX3_init_20 ?_
  refine ct_iconst X (0 : Int32) (by decide) dX3_init_21 ?_
  refine ct_put X 0 (fs := [.ref q1, .ref q2, .int 0]) (v := .int 0) (by decide) rfl rfl (fun w h => List.mem_cons_of_mem _ (List.mem_append_right _ h)) tyX3 tyX3_ok nmX3 2 (by decide) (List.mem_of_getElem? (i := 7) rfl) rfl rfl rfl (Nat.le_of_ble_eq_true rfl) dX3_init_22 ?_
  exact ct_ret X (post := fun g => (g 0).1 = h0 ∧ _) ⟨rfl, rfl, rfl, rfl⟩ dX3_init_25
theorem c_X4_init (l : Launch) (A0 : Nat → Prop) (D : va_G) (c : Nat → ClassId) : ct_M l A0 D c yX4_init wsX4_init ({ frames := 1, cells := 1, slots := 10, locals := 40 }) (.inr (4, [.null, .int 0])) 2 1 10 (fun g => (g 0).2 = .inr (4, [.ref (g 1).1, .int 0]) ∧ (g 1).2 = .inl (c 0, 10, .inl (fun _ => 0))) := by
  refine ct_enter (cc := cX4_init) (nL := 1) rfl rfl rfl (by decide) (fun Γ h0 A hl X => ?_)
  refine ct_aload X 0 rfl rfl dX4_init_0 ?_
  refine ct_obj X (List.mem_of_getElem? (i := 1) rfl) (List.mem_of_getElem? (i := 2) rfl) (List.mem_of_getElem? (i := 3) rfl) (Nat.le_of_ble_eq_true rfl) (Nat.le_of_ble_eq_true rfl) dX4_init_1 ?_
  refine ct_aload X 0 rfl rfl dX4_init_4 ?_
  refine ct_bipush X (10 : Int32) (by decide) dX4_init_5 ?_
  refine ct_newi X 10 (List.mem_of_getElem? (i := 4) rfl) (by decide) (by decide) (Nat.le_of_ble_eq_true rfl) (Nat.le_of_ble_eq_true rfl) (Nat.le_of_ble_eq_true rfl) dX4_init_7 (fun q1 => ?_)
  refine ct_putF X 0 (fs := [.null, .int 0]) (v := .ref q1) (by decide) rfl rfl (fun w h => List.mem_cons_of_mem _ (List.mem_append_right _ h)) tyX4 tyX4_ok nmX4 0 (by decide) (List.mem_of_getElem? (i := 5) rfl) rfl rfl rfl rfl (Nat.le_of_ble_eq_true rfl) dX4_init_9 ?_
  refine ct_aload X 0 rfl rfl dX4_init_12 ?_
  refine ct_iconst X (0 : Int32) (by decide) dX4_init_13 ?_
  refine ct_put X 0 (fs := [.ref q1, .int 0]) (v := .int 0) (by decide) rfl rfl (fun w h => List.mem_cons_of_mem _ (List.mem_append_right _ h)) tyX4 tyX4_ok nmX4 1 (by decide) (List.mem_of_getElem? (i := 6) rfl) rfl rfl rfl (Nat.le_of_ble_eq_true rfl) dX4_init_14 ?_
  exact ct_ret X (post := fun g => (g 0).1 = h0 ∧ _) ⟨rfl, rfl, rfl⟩ dX4_init_17
theorem c_X7_init (l : Launch) (A0 : Nat → Prop) (D : va_G) (c : Nat → ClassId) : ct_M l A0 D c yX7_init wsX7_init ({ frames := 1, cells := 1, slots := 48, locals := 40 }) (.inr (7, [.null, .int 0])) 2 1 48 (fun g => (g 0).2 = .inr (7, [.ref (g 1).1, .int 0]) ∧ (g 1).2 = .inl (c 0, 48, .inl (fun _ => 0))) := by
  refine ct_enter (cc := cX7_init) (nL := 1) rfl rfl rfl (by decide) (fun Γ h0 A hl X => ?_)
  refine ct_aload X 0 rfl rfl dX7_init_0 ?_
  refine ct_obj X (List.mem_of_getElem? (i := 1) rfl) (List.mem_of_getElem? (i := 2) rfl) (List.mem_of_getElem? (i := 3) rfl) (Nat.le_of_ble_eq_true rfl) (Nat.le_of_ble_eq_true rfl) dX7_init_1 ?_
  refine ct_aload X 0 rfl rfl dX7_init_4 ?_
  refine ct_bipush X (48 : Int32) (by decide) dX7_init_5 ?_
  refine ct_newi X 48 (List.mem_of_getElem? (i := 4) rfl) (by decide) (by decide) (Nat.le_of_ble_eq_true rfl) (Nat.le_of_ble_eq_true rfl) (Nat.le_of_ble_eq_true rfl) dX7_init_7 (fun q1 => ?_)
  refine ct_putF X 0 (fs := [.null, .int 0]) (v := .ref q1) (by decide) rfl rfl (fun w h => List.mem_cons_of_mem _ (List.mem_append_right _ h)) tyX7 tyX7_ok nmX7 0 (by decide) (List.mem_of_getElem? (i := 5) rfl) rfl rfl rfl rfl (Nat.le_of_ble_eq_true rfl) dX7_init_9 ?_
  refine ct_aload X 0 rfl rfl dX7_init_12 ?_
  refine ct_iconst X (0 : Int32) (by decide) dX7_init_13 ?_
  refine ct_put X 0 (fs := [.ref q1, .int 0]) (v := .int 0) (by decide) rfl rfl (fun w h => List.mem_cons_of_mem _ (List.mem_append_right _ h)) tyX7 tyX7_ok nmX7 1 (by decide) (List.mem_of_getElem? (i := 6) rfl) rfl rfl rfl (Nat.le_of_ble_eq_true rfl) dX7_init_14 ?_
  exact ct_ret X (post := fun g => (g 0).1 = h0 ∧ _) ⟨rfl, rfl, rfl⟩ dX7_init_17
theorem c_X6_init (l : Launch) (A0 : Nat → Prop) (D : va_G) (c : Nat → ClassId) : ct_M l A0 D c yX6_init wsX6_init ({ frames := 1, cells := 1, slots := 60, locals := 40 }) (.inr (6, [.null, .int 0])) 2 1 60 (fun g => (g 0).2 = .inr (6, [.ref (g 1).1, .int 0]) ∧ (g 1).2 = .inl (c 0, 60, .inl (fun _ => 0))) := by
  refine ct_enter (cc := cX6_init) (nL := 1) rfl rfl rfl (by decide) (fun Γ h0 A hl X => ?_)
  refine ct_aload X 0 rfl rfl dX6_init_0 ?_
  refine ct_obj X (List.mem_of_getElem? (i := 1) rfl) (List.mem_of_getElem? (i := 2) rfl) (List.mem_of_getElem? (i := 3) rfl) (Nat.le_of_ble_eq_true rfl) (Nat.le_of_ble_eq_true rfl) dX6_init_1 ?_
  refine ct_aload X 0 rfl rfl dX6_init_4 ?_
  refine ct_bipush X (60 : Int32) (by decide) dX6_init_5 ?_
  refine ct_newi X 60 (List.mem_of_getElem? (i := 4) rfl) (by decide) (by decide) (Nat.le_of_ble_eq_true rfl) (Nat.le_of_ble_eq_true rfl) (Nat.le_of_ble_eq_true rfl) dX6_init_7 (fun q1 => ?_)
  refine ct_putF X 0 (fs := [.null, .int 0]) (v := .ref q1) (by decide) rfl rfl (fun w h => List.mem_cons_of_mem _ (List.mem_append_right _ h)) tyX6 tyX6_ok nmX6 0 (by decide) (List.mem_of_getElem? (i := 5) rfl) rfl rfl rfl rfl (Nat.le_of_ble_eq_true rfl) dX6_init_9 ?_
  refine ct_aload X 0 rfl rfl dX6_init_12 ?_
  refine ct_iconst X (0 : Int32) (by decide) dX6_init_13 ?_
  refine ct_put X 0 (fs := [.ref q1, .int 0]) (v := .int 0) (by decide) rfl rfl (fun w h => List.mem_cons_of_mem _ (List.mem_append_right _ h)) tyX6 tyX6_ok nmX6 1 (by decide) (List.mem_of_getElem? (i := 6) rfl) rfl rfl rfl (Nat.le_of_ble_eq_true rfl) dX6_init_14 ?_
  exact ct_ret X (post := fun g => (g 0).1 = h0 ∧ _) ⟨rfl, rfl, rfl⟩ dX6_init_17
theorem c_X1_init (l : Launch) (A0 : Nat → Prop) (D : va_G) (c : Nat → ClassId) : ct_M l A0 D c yX1_init wsX1_init ({ frames := 1, cells := 0, slots := 0, locals := 40 }) (.inr (1, [.int 0, .int 0, .int 0, .int 0, .int 0])) 1 0 0 (fun g => (g 0).2 = .inr (1, [.int 0, .int 0, .int (-1), .int 0, .int (-1)])) := by
  refine ct_enter (cc := cX1_init) (nL := 1) rfl rfl rfl (by decide) (fun Γ h0 A hl X => ?_)
  refine ct_aload X 0 rfl rfl dX1_init_0 ?_
  refine ct_obj X (List.mem_of_getElem? (i := 1) rfl) (List.mem_of_getElem? (i := 2) rfl) (List.mem_of_getElem? (i := 3) rfl) (Nat.le_of_ble_eq_true rfl) (Nat.le_of_ble_eq_true rfl) dX1_init_1 ?_
  refine ct_aload X 0 rfl rfl dX1_init_4 ?_
  refine ct_iconst X (0 : Int32) (by decide) dX1_init_5 ?_
  refine ct_put X 0 (fs := [.int 0, .int 0, .int 0, .int 0, .int 0]) (v := .int 0) (by decide) rfl rfl (fun w h => List.mem_cons_of_mem _ (List.mem_append_right _ h)) tyX1 tyX1_ok nmX1 0 (by decide) (List.mem_of_getElem? (i := 4) rfl) rfl rfl rfl (Nat.le_of_ble_eq_true rfl) dX1_init_6 ?_
  refine ct_aload X 0 rfl rfl dX1_init_9 ?_
  refine ct_iconst X (0 : Int32) (by decide) dX1_init_10 ?_
  refine ct_put X 0 (fs := [.int 0, .int 0, .int 0, .int 0, .int 0]) (v := .int 0) (by decide) rfl rfl (fun w h => List.mem_cons_of_mem _ (List.mem_append_right _ h)) tyX1 tyX1_ok nmX1 1 (by decide) (List.mem_of_getElem? (i := 5) rfl) rfl rfl rfl (Nat.le_of_ble_eq_true rfl) dX1_init_11 ?_
  refine ct_aload X 0 rfl rfl dX1_init_14 ?_
  refine ct_iconst X (-1 : Int32) (by decide) dX1_init_15 ?_
  refine ct_put X 0 (fs := [.int 0, .int 0, .int 0, .int 0, .int 0]) (v := .int (-1)) (by decide) rfl rfl (fun w h => List.mem_cons_of_mem _ (List.mem_append_right _ h)) tyX1 tyX1_ok nmX1 2 (by decide) (List.mem_of_getElem? (i := 6) rfl) rfl rfl rfl (Nat.le_of_ble_eq_true rfl) dX1_init_16 ?_
  refine ct_aload X 0 rfl rfl dX1_init_19 ?_
  refine ct_iconst X (0 : Int32) (by decide) dX1_init_20 ?_
  refine ct_put X 0 (fs := [.int 0, .int 0, .int (-1), .int 0, .int 0]) (v := .int 0) (by decide) rfl rfl (fun w h => List.mem_cons_of_mem _ (List.mem_append_right _ h)) tyX1 tyX1_ok nmX1 3 (by decide) (List.mem_of_getElem? (i := 7) rfl) rfl rfl rfl (Nat.le_of_ble_eq_true rfl) dX1_init_21 ?_
  refine ct_aload X 0 rfl rfl dX1_init_24 ?_
  refine ct_iconst X (-1 : Int32) (by decide) dX1_init_25 ?_
  refine ct_put X 0 (fs := [.int 0, .int 0, .int (-1), .int 0, .int 0]) (v := .int (-1)) (by decide) rfl rfl (fun w h => List.mem_cons_of_mem _ (List.mem_append_right _ h)) tyX1 tyX1_ok nmX1 4 (by decide) (List.mem_of_getElem? (i := 8) rfl) rfl rfl rfl (Nat.le_of_ble_eq_true rfl) dX1_init_26 ?_
  exact ct_ret X (post := fun g => (g 0).1 = h0 ∧ _) ⟨rfl, rfl⟩ dX1_init_29
theorem c_X5_init (l : Launch) (A0 : Nat → Prop) (D : va_G) (c : Nat → ClassId) : ct_M l A0 D c yX5_init wsX5_init ({ frames := 1, cells := 0, slots := 0, locals := 40 }) (.inr (5, [.int 0, .int 0, .int 0, .int 0, .int 0, .int 0, .int 0])) 1 0 0 (fun g => (g 0).2 = .inr (5, [.int 0, .int 0, .int 0, .int 0, .int 0, .int 0, .int 0])) := by
  refine ct_enter (cc := cX5_init) (nL := 1) rfl rfl rfl (by decide) (fun Γ h0 A hl X => ?_)
  refine ct_aload X 0 rfl rfl dX5_init_0 ?_
  refine ct_obj X (List.mem_of_getElem? (i := 1) rfl) (List.mem_of_getElem? (i := 2) rfl) (List.mem_of_getElem? (i := 3) rfl) (Nat.le_of_ble_eq_true rfl) (Nat.le_of_ble_eq_true rfl) dX5_init_1 ?_
  exact ct_ret X (post := fun g => (g 0).1 = h0 ∧ _) ⟨rfl, rfl⟩ dX5_init_4
def gZ9 : Nat → Int32 := (upd (upd (upd (upd (upd (upd (upd (upd (fun _ => 0) (71 : Int32).toNatClampNeg (16)) (72 : Int32).toNatClampNeg (5)) (73 : Int32).toNatClampNeg (3)) (74 : Int32).toNatClampNeg (24)) (75 : Int32).toNatClampNeg (2)) (76 : Int32).toNatClampNeg (10)) (141 : Int32).toNatClampNeg (-1)) (144 : Int32).toNatClampNeg (-1))
