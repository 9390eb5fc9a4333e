/-! ### the campaign is made -/
theorem gu_ne {g : Nat → Nat × va_E} {i k : Nat} {x : Nat × va_E} (h : k ≠ i) : gu g i x k = g k := if_neg h
theorem gu_eq {g : Nat → Nat × va_E} {i : Nat} {x : Nat × va_E} : gu g i x i = x := if_pos rfl
def bs (f : Nat) : Nat := if f < 2 then 1 + 25 * f else 54 + 25 * (f - 2)
def G8 : cr_G := fun _ _ => 0
def ctV (c : Nat → ClassId) (u : Nat → Nat → Nat) : cr_E := ((fun _ => 0, fun _ _ => 0), u, fun _ => True, c)
def uC (u0 u1 u2 u3 u4 u5 u6 u7 : Nat → Nat) (a b x y : Nat) : Nat → Nat → Nat := fun f => match f with
  | 0 => u0
  | 1 => u1
  | 2 => u2
  | 3 => u3
  | 4 => u4
  | 5 => u5
  | 6 => u6
  | 7 => u7
  | _ => fun j => match j with
    | 0 => a
    | 1 => b
    | 2 => x
    | _ => y
def csp (c : Nat → ClassId) (g : Nat → Nat × va_E) : Prop := ∃ u : Nat → Nat → Nat, (∀ f j, f < 8 → j < 25 → g (bs f + j) = (u f j, cr_fc (ctV c u) f G0 j)) ∧ g 0 = (u 8 0, cr_cc (ctV c u) G8 0) ∧ g 51 = (u 8 1, cr_cc (ctV c u) G8 1) ∧ g 52 = (u 8 2, cr_cc (ctV c u) G8 2) ∧ g 53 = (u 8 3, cr_cc (ctV c u) G8 3)
theorem c_X8_init (l : Launch) (A0 : Nat → Prop) (D : va_G) (c : Nat → ClassId) : ct_M l A0 D c yX8_init wsX8_init ({ frames := 3, cells := 203, slots := 1724, locals := 260 }) (.inr (8, [.null, .null, .null, .int 0, .int 0, .null])) 204 203 1724 (csp c) := by
  refine ct_enter (cc := cX8_init) (nL := 2) rfl rfl rfl (by decide) (fun Γ h0 A hl X => ?_)
  refine ct_aload X 0 rfl rfl dX8_init_0 ?_
  refine ct_obj X (List.mem_of_getElem? (i := 1) rfl) (List.mem_of_getElem? (i := 2) rfl) (List.mem_of_getElem? (i := 3) rfl) (Nat.le_of_ble_eq_true rfl) (Nat.le_of_ble_eq_true rfl) dX8_init_1 ?_
  refine ct_aload X 0 rfl rfl dX8_init_4 ?_
  refine ct_new X 2 [.null, .int 0, .null, .null, .null, .null, .null, .null, .null, .int 0] rfl (fun w h => List.mem_cons_of_mem _ (List.mem_append_left _ (List.mem_append_left _ (List.mem_append_left _ (List.mem_append_left _ (List.mem_append_left _ (List.mem_append_left _ (List.mem_append_left _ (List.mem_append_left _ (List.mem_append_right _ h)))))))))) tyX2 tyX2_ok (List.mem_of_getElem? (i := 4) rfl) (List.mem_of_getElem? (i := 5) rfl) (List.mem_of_getElem? (i := 6) rfl) zz_X2 (Nat.le_of_ble_eq_true rfl) (Nat.le_of_ble_eq_true rfl) dX8_init_5 (fun bgF0 => ?_)
  refine ct_dup X dX8_init_8 ?_
  refine ct_call 25 24 197 1 X (c_X2_init _ A0 D c) (by decide) rfl (by decide) gX8_init_X2_init rfl rfl rfl (List.mem_of_getElem? (i := 6) rfl) (List.mem_of_getElem? (i := 16) rfl) (List.mem_of_getElem? (i := 17) rfl) rfl (by decide +kernel) ⟨Nat.le_of_ble_eq_true rfl, Nat.le_of_ble_eq_true rfl⟩ ⟨Nat.le_of_ble_eq_true rfl, Nat.le_of_ble_eq_true rfl⟩ (Nat.le_of_ble_eq_true rfl) dX8_init_9 (fun gF0 hgF0 sgF0 => ?_)
  subst hgF0
  obtain ⟨ugF0, vgF0⟩ := sgF0
  refine ct_putF X 0 (fs := [.null, .null, .null, .int 0, .int 0, .null]) (v := .ref (gF0 0).1) (by decide) rfl rfl (fun w h => List.mem_cons_of_mem _ (List.mem_append_left _ (List.mem_append_left _ (List.mem_append_left _ (List.mem_append_left _ (List.mem_append_left _ (List.mem_append_left _ (List.mem_append_left _ (List.mem_append_right _ h))))))))) tyX8 tyX8_ok nmX8 0 (by decide) (List.mem_of_getElem? (i := 7) rfl) rfl rfl rfl rfl (Nat.le_of_ble_eq_true rfl) dX8_init_12 ?_
  refine ct_aload X 0 rfl rfl dX8_init_15 ?_
  refine ct_new X 2 [.null, .int 0, .null, .null, .null, .null, .null, .null, .null, .int 0] rfl (fun w h => List.mem_cons_of_mem _ (List.mem_append_left _ (List.mem_append_left _ (List.mem_append_left _ (List.mem_append_left _ (List.mem_append_left _ (List.mem_append_left _ (List.mem_append_left _ (List.mem_append_left _ (List.mem_append_right _ h)))))))))) tyX2 tyX2_ok (List.mem_of_getElem? (i := 4) rfl) (List.mem_of_getElem? (i := 5) rfl) (List.mem_of_getElem? (i := 6) rfl) zz_X2 (Nat.le_of_ble_eq_true rfl) (Nat.le_of_ble_eq_true rfl) dX8_init_16 (fun bgF1 => ?_)
  refine ct_dup X dX8_init_19 ?_
  refine ct_call 25 24 197 26 X (c_X2_init _ A0 D c) (by decide) rfl (by decide) gX8_init_X2_init rfl rfl rfl (List.mem_of_getElem? (i := 6) rfl) (List.mem_of_getElem? (i := 16) rfl) (List.mem_of_getElem? (i := 17) rfl) rfl (by decide +kernel) ⟨Nat.le_of_ble_eq_true rfl, Nat.le_of_ble_eq_true rfl⟩ ⟨Nat.le_of_ble_eq_true rfl, Nat.le_of_ble_eq_true rfl⟩ (Nat.le_of_ble_eq_true rfl) dX8_init_20 (fun gF1 hgF1 sgF1 => ?_)
  subst hgF1
  obtain ⟨ugF1, vgF1⟩ := sgF1
  refine ct_putF X 0 (fs := [.ref (gF0 0).1, .null, .null, .int 0, .int 0, .null]) (v := .ref (gF1 0).1) (by decide) rfl rfl (fun w h => List.mem_cons_of_mem _ (List.mem_append_left _ (List.mem_append_left _ (List.mem_append_left _ (List.mem_append_left _ (List.mem_append_left _ (List.mem_append_left _ (List.mem_append_left _ (List.mem_append_right _ h))))))))) tyX8 tyX8_ok nmX8 1 (by decide) (List.mem_of_getElem? (i := 8) rfl) rfl rfl rfl rfl (Nat.le_of_ble_eq_true rfl) dX8_init_23 ?_
  refine ct_aload X 0 rfl rfl dX8_init_26 ?_
  refine ct_bipush X (6 : Int32) (by decide) dX8_init_27 ?_
  refine ct_newq X "CraneCampaign$Farm" 2 6 (List.mem_of_getElem? (i := 4) rfl) (fun U h => h.2.2.2.1) rfl (by decide) (by decide) (Nat.le_of_ble_eq_true rfl) (Nat.le_of_ble_eq_true rfl) (Nat.le_of_ble_eq_true rfl) dX8_init_29 (fun qs => ?_)
  refine ct_putF X 0 (fs := [.ref (gF0 0).1, .ref (gF1 0).1, .null, .int 0, .int 0, .null]) (v := .ref qs) (by decide) rfl rfl (fun w h => List.mem_cons_of_mem _ (List.mem_append_left _ (List.mem_append_left _ (List.mem_append_left _ (List.mem_append_left _ (List.mem_append_left _ (List.mem_append_left _ (List.mem_append_left _ (List.mem_append_right _ h))))))))) tyX8 tyX8_ok nmX8 2 (by decide) (List.mem_of_getElem? (i := 9) rfl) rfl rfl rfl rfl (Nat.le_of_ble_eq_true rfl) dX8_init_32 ?_
  refine ct_aload X 0 rfl rfl dX8_init_35 ?_
  refine ct_iconst X (0 : Int32) (by decide) dX8_init_36 ?_
  refine ct_put X 0 (fs := [.ref (gF0 0).1, .ref (gF1 0).1, .ref qs, .int 0, .int 0, .null]) (v := .int 0) (by decide) rfl rfl (fun w h => List.mem_cons_of_mem _ (List.mem_append_left _ (List.mem_append_left _ (List.mem_append_left _ (List.mem_append_left _ (List.mem_append_left _ (List.mem_append_left _ (List.mem_append_left _ (List.mem_append_right _ h))))))))) tyX8 tyX8_ok nmX8 3 (by decide) (List.mem_of_getElem? (i := 10) rfl) rfl rfl rfl (Nat.le_of_ble_eq_true rfl) dX8_init_37 ?_
  refine ct_aload X 0 rfl rfl dX8_init_40 ?_
  refine ct_iconst X (0 : Int32) (by decide) dX8_init_41 ?_
  refine ct_put X 0 (fs := [.ref (gF0 0).1, .ref (gF1 0).1, .ref qs, .int 0, .int 0, .null]) (v := .int 0) (by decide) rfl rfl (fun w h => List.mem_cons_of_mem _ (List.mem_append_left _ (List.mem_append_left _ (List.mem_append_left _ (List.mem_append_left _ (List.mem_append_left _ (List.mem_append_left _ (List.mem_append_left _ (List.mem_append_right _ h))))))))) tyX8 tyX8_ok nmX8 4 (by decide) (List.mem_of_getElem? (i := 11) rfl) rfl rfl rfl (Nat.le_of_ble_eq_true rfl) dX8_init_42 ?_
  refine ct_aload X 0 rfl rfl dX8_init_45 ?_
  refine ct_new X 6 [.null, .int 0] rfl (fun w h => List.mem_cons_of_mem _ (List.mem_append_left _ (List.mem_append_left _ (List.mem_append_left _ (List.mem_append_left _ (List.mem_append_left _ (List.mem_append_left _ (List.mem_append_right _ h)))))))) tyX6 tyX6_ok (List.mem_of_getElem? (i := 12) rfl) (List.mem_of_getElem? (i := 13) rfl) (List.mem_of_getElem? (i := 14) rfl) zz_X6 (Nat.le_of_ble_eq_true rfl) (Nat.le_of_ble_eq_true rfl) dX8_init_46 (fun bgB => ?_)
  refine ct_dup X dX8_init_49 ?_
  refine ct_callN 2 1 60 52 X (c_X6_init _ A0 D c) (by decide) rfl (by decide) gX8_init_X6_init_n32 rfl rfl rfl (List.mem_of_getElem? (i := 14) rfl) (by decide +kernel) (List.mem_of_getElem? (i := 86) rfl) rfl (by decide +kernel) ⟨Nat.le_of_ble_eq_true rfl, Nat.le_of_ble_eq_true rfl⟩ ⟨Nat.le_of_ble_eq_true rfl, Nat.le_of_ble_eq_true rfl⟩ (Nat.le_of_ble_eq_true rfl) dX8_init_50 (fun gB hgB sgB => ?_)
  subst hgB
  refine ct_putF X 0 (fs := [.ref (gF0 0).1, .ref (gF1 0).1, .ref qs, .int 0, .int 0, .null]) (v := .ref (gB 0).1) (by decide) rfl rfl (fun w h => List.mem_cons_of_mem _ (List.mem_append_left _ (List.mem_append_left _ (List.mem_append_left _ (List.mem_append_left _ (List.mem_append_left _ (List.mem_append_left _ (List.mem_append_left _ (List.mem_append_right _ h))))))))) tyX8 tyX8_ok nmX8 5 (by decide) (List.mem_of_getElem? (i := 15) rfl) rfl rfl rfl rfl (Nat.le_of_ble_eq_true rfl) dX8_init_53 ?_
  refine ct_iconst X (0 : Int32) (by decide) dX8_init_56 ?_
  refine ct_istore X [(1, .int 0), (0, .ref h0)] rfl (by decide) rfl dX8_init_57 ?_
  refine ct_iload X 0 rfl rfl dX8_init_58 ?_
  refine ct_bipush X (6 : Int32) (by decide) dX8_init_59 ?_
  refine ct_icmpge X 83 dX8_init_61 rfl (fun h => absurd h (by decide)) (fun _ => ?_)
  refine ct_aload X 1 rfl rfl dX8_init_64 ?_
  refine ct_get X 0 (fs := [.ref (gF0 0).1, .ref (gF1 0).1, .ref qs, .int 0, .int 0, .ref (gB 0).1]) (v := .ref qs) (by decide) rfl rfl (fun w h => List.mem_cons_of_mem _ (List.mem_append_left _ (List.mem_append_left _ (List.mem_append_left _ (List.mem_append_left _ (List.mem_append_left _ (List.mem_append_left _ (List.mem_append_left _ (List.mem_append_right _ h))))))))) 2 (by decide) (List.mem_of_getElem? (i := 9) rfl) rfl dX8_init_65 ?_
  refine ct_iload X 0 rfl rfl dX8_init_68 ?_
  refine ct_new X 2 [.null, .int 0, .null, .null, .null, .null, .null, .null, .null, .int 0] rfl (fun w h => List.mem_cons_of_mem _ (List.mem_append_left _ (List.mem_append_left _ (List.mem_append_left _ (List.mem_append_left _ (List.mem_append_left _ (List.mem_append_left _ (List.mem_append_left _ (List.mem_append_left _ (List.mem_append_right _ h)))))))))) tyX2 tyX2_ok (List.mem_of_getElem? (i := 4) rfl) (List.mem_of_getElem? (i := 5) rfl) (List.mem_of_getElem? (i := 6) rfl) zz_X2 (Nat.le_of_ble_eq_true rfl) (Nat.le_of_ble_eq_true rfl) dX8_init_69 (fun bgF2 => ?_)
  refine ct_dup X dX8_init_72 ?_
  refine ct_call 25 24 197 54 X (c_X2_init _ A0 D c) (by decide) rfl (by decide) gX8_init_X2_init rfl rfl rfl (List.mem_of_getElem? (i := 6) rfl) (List.mem_of_getElem? (i := 16) rfl) (List.mem_of_getElem? (i := 17) rfl) rfl (by decide +kernel) ⟨Nat.le_of_ble_eq_true rfl, Nat.le_of_ble_eq_true rfl⟩ ⟨Nat.le_of_ble_eq_true rfl, Nat.le_of_ble_eq_true rfl⟩ (Nat.le_of_ble_eq_true rfl) dX8_init_73 (fun gF2 hgF2 sgF2 => ?_)
  subst hgF2
  obtain ⟨ugF2, vgF2⟩ := sgF2
  refine ct_astq X 51 2 54 2 (v := (gF2 0).1) (vs := [.ref (ugF2 1), .int 0, .ref (ugF2 2), .ref (ugF2 5), .ref (ugF2 8), .ref (ugF2 10), .ref (ugF2 11), .ref (ugF2 13), .ref (ugF2 14), .int 0]) (r := (RX2, TX2, 10)) (f := (fun _ => none)) (N' := 6) (by decide) (by decide) rfl rfl (Eq.trans (b := gF2 0) rfl (Prod.ext rfl ((congrArg Prod.snd (vgF2 0 (by decide))).trans rfl))) rfl (by unfold vp_in; decide) dX8_init_76 ?_
  refine ct_iinc X 1 [(1, .int 1), (0, .ref h0)] 0 rfl (by decide) (by decide) rfl dX8_init_77 ?_
  refine ct_goto X 58 dX8_init_80 rfl ?_
  refine ct_iload X 0 rfl rfl dX8_init_58 ?_
  refine ct_bipush X (6 : Int32) (by decide) dX8_init_59 ?_
  refine ct_icmpge X 83 dX8_init_61 rfl (fun h => absurd h (by decide)) (fun _ => ?_)
  refine ct_aload X 1 rfl rfl dX8_init_64 ?_
  refine ct_get X 0 (fs := [.ref (gF0 0).1, .ref (gF1 0).1, .ref qs, .int 0, .int 0, .ref (gB 0).1]) (v := .ref qs) (by decide) rfl rfl (fun w h => List.mem_cons_of_mem _ (List.mem_append_left _ (List.mem_append_left _ (List.mem_append_left _ (List.mem_append_left _ (List.mem_append_left _ (List.mem_append_left _ (List.mem_append_left _ (List.mem_append_right _ h))))))))) 2 (by decide) (List.mem_of_getElem? (i := 9) rfl) rfl dX8_init_65 ?_
  refine ct_iload X 0 rfl rfl dX8_init_68 ?_
  refine ct_new X 2 [.null, .int 0, .null, .null, .null, .null, .null, .null, .null, .int 0] rfl (fun w h => List.mem_cons_of_mem _ (List.mem_append_left _ (List.mem_append_left _ (List.mem_append_left _ (List.mem_append_left _ (List.mem_append_left _ (List.mem_append_left _ (List.mem_append_left _ (List.mem_append_left _ (List.mem_append_right _ h)))))))))) tyX2 tyX2_ok (List.mem_of_getElem? (i := 4) rfl) (List.mem_of_getElem? (i := 5) rfl) (List.mem_of_getElem? (i := 6) rfl) zz_X2 (Nat.le_of_ble_eq_true rfl) (Nat.le_of_ble_eq_true rfl) dX8_init_69 (fun bgF3 => ?_)
  refine ct_dup X dX8_init_72 ?_
  refine ct_call 25 24 197 79 X (c_X2_init _ A0 D c) (by decide) rfl (by decide) gX8_init_X2_init rfl rfl rfl (List.mem_of_getElem? (i := 6) rfl) (List.mem_of_getElem? (i := 16) rfl) (List.mem_of_getElem? (i := 17) rfl) rfl (by decide +kernel) ⟨Nat.le_of_ble_eq_true rfl, Nat.le_of_ble_eq_true rfl⟩ ⟨Nat.le_of_ble_eq_true rfl, Nat.le_of_ble_eq_true rfl⟩ (Nat.le_of_ble_eq_true rfl) dX8_init_73 (fun gF3 hgF3 sgF3 => ?_)
  subst hgF3
  obtain ⟨ugF3, vgF3⟩ := sgF3
  refine ct_astq X 51 2 79 2 (v := (gF3 0).1) (vs := [.ref (ugF3 1), .int 0, .ref (ugF3 2), .ref (ugF3 5), .ref (ugF3 8), .ref (ugF3 10), .ref (ugF3 11), .ref (ugF3 13), .ref (ugF3 14), .int 0]) (r := (RX2, TX2, 10)) (f := (va_up (fun _ => none) (0 : Int32).toNatClampNeg (some (gF2 0).1))) (N' := 6) (by decide) (by decide) rfl rfl (Eq.trans (b := gF3 0) rfl (Prod.ext rfl ((congrArg Prod.snd (vgF3 0 (by decide))).trans rfl))) rfl (by unfold vp_in; decide) dX8_init_76 ?_
  refine ct_iinc X 2 [(1, .int 2), (0, .ref h0)] 0 rfl (by decide) (by decide) rfl dX8_init_77 ?_
  refine ct_goto X 58 dX8_init_80 rfl ?_
  refine ct_iload X 0 rfl rfl dX8_init_58 ?_
  refine ct_bipush X (6 : Int32) (by decide) dX8_init_59 ?_
  refine ct_icmpge X 83 dX8_init_61 rfl (fun h => absurd h (by decide)) (fun _ => ?_)
  refine ct_aload X 1 rfl rfl dX8_init_64 ?_
  refine ct_get X 0 (fs := [.ref (gF0 0).1, .ref (gF1 0).1, .ref qs, .int 0, .int 0, .ref (gB 0).1]) (v := .ref qs) (by decide) rfl rfl (fun w h => List.mem_cons_of_mem _ (List.mem_append_left _ (List.mem_append_left _ (List.mem_append_left _ (List.mem_append_left _ (List.mem_append_left _ (List.mem_append_left _ (List.mem_append_left _ (List.mem_append_right _ h))))))))) 2 (by decide) (List.mem_of_getElem? (i := 9) rfl) rfl dX8_init_65 ?_
  refine ct_iload X 0 rfl rfl dX8_init_68 ?_
  refine ct_new X 2 [.null, .int 0, .null, .null, .null, .null, .null, .null, .null, .int 0] rfl (fun w h => List.mem_cons_of_mem _ (List.mem_append_left _ (List.mem_append_left _ (List.mem_append_left _ (List.mem_append_left _ (List.mem_append_left _ (List.mem_append_left _ (List.mem_append_left _ (List.mem_append_left _ (List.mem_append_right _ h)))))))))) tyX2 tyX2_ok (List.mem_of_getElem? (i := 4) rfl) (List.mem_of_getElem? (i := 5) rfl) (List.mem_of_getElem? (i := 6) rfl) zz_X2 (Nat.le_of_ble_eq_true rfl) (Nat.le_of_ble_eq_true rfl) dX8_init_69 (fun bgF4 => ?_)
  refine ct_dup X dX8_init_72 ?_
  refine ct_call 25 24 197 104 X (c_X2_init _ A0 D c) (by decide) rfl (by decide) gX8_init_X2_init rfl rfl rfl (List.mem_of_getElem? (i := 6) rfl) (List.mem_of_getElem? (i := 16) rfl) (List.mem_of_getElem? (i := 17) rfl) rfl (by decide +kernel) ⟨Nat.le_of_ble_eq_true rfl, Nat.le_of_ble_eq_true rfl⟩ ⟨Nat.le_of_ble_eq_true rfl, Nat.le_of_ble_eq_true rfl⟩ (Nat.le_of_ble_eq_true rfl) dX8_init_73 (fun gF4 hgF4 sgF4 => ?_)
  subst hgF4
  obtain ⟨ugF4, vgF4⟩ := sgF4
  refine ct_astq X 51 2 104 2 (v := (gF4 0).1) (vs := [.ref (ugF4 1), .int 0, .ref (ugF4 2), .ref (ugF4 5), .ref (ugF4 8), .ref (ugF4 10), .ref (ugF4 11), .ref (ugF4 13), .ref (ugF4 14), .int 0]) (r := (RX2, TX2, 10)) (f := (va_up (va_up (fun _ => none) (0 : Int32).toNatClampNeg (some (gF2 0).1)) (1 : Int32).toNatClampNeg (some (gF3 0).1))) (N' := 6) (by decide) (by decide) rfl rfl (Eq.trans (b := gF4 0) rfl (Prod.ext rfl ((congrArg Prod.snd (vgF4 0 (by decide))).trans rfl))) rfl (by unfold vp_in; decide) dX8_init_76 ?_
  refine ct_iinc X 3 [(1, .int 3), (0, .ref h0)] 0 rfl (by decide) (by decide) rfl dX8_init_77 ?_
  refine ct_goto X 58 dX8_init_80 rfl ?_
  refine ct_iload X 0 rfl rfl dX8_init_58 ?_
  refine ct_bipush X (6 : Int32) (by decide) dX8_init_59 ?_
  refine ct_icmpge X 83 dX8_init_61 rfl (fun h => absurd h (by decide)) (fun _ => ?_)
  refine ct_aload X 1 rfl rfl dX8_init_64 ?_
  refine ct_get X 0 (fs := [.ref (gF0 0).1, .ref (gF1 0).1, .ref qs, .int 0, .int 0, .ref (gB 0).1]) (v := .ref qs) (by decide) rfl rfl (fun w h => List.mem_cons_of_mem _ (List.mem_append_left _ (List.mem_append_left _ (List.mem_append_left _ (List.mem_append_left _ (List.mem_append_left _ (List.mem_append_left _ (List.mem_append_left _ (List.mem_append_right _ h))))))))) 2 (by decide) (List.mem_of_getElem? (i := 9) rfl) rfl dX8_init_65 ?_
  refine ct_iload X 0 rfl rfl dX8_init_68 ?_
  refine ct_new X 2 [.null, .int 0, .null, .null, .null, .null, .null, .null, .null, .int 0] rfl (fun w h => List.mem_cons_of_mem _ (List.mem_append_left _ (List.mem_append_left _ (List.mem_append_left _ (List.mem_append_left _ (List.mem_append_left _ (List.mem_append_left _ (List.mem_append_left _ (List.mem_append_left _ (List.mem_append_right _ h)))))))))) tyX2 tyX2_ok (List.mem_of_getElem? (i := 4) rfl) (List.mem_of_getElem? (i := 5) rfl) (List.mem_of_getElem? (i := 6) rfl) zz_X2 (Nat.le_of_ble_eq_true rfl) (Nat.le_of_ble_eq_true rfl) dX8_init_69 (fun bgF5 => ?_)
  refine ct_dup X dX8_init_72 ?_
  refine ct_call 25 24 197 129 X (c_X2_init _ A0 D c) (by decide) rfl (by decide) gX8_init_X2_init rfl rfl rfl (List.mem_of_getElem? (i := 6) rfl) (List.mem_of_getElem? (i := 16) rfl) (List.mem_of_getElem? (i := 17) rfl) rfl (by decide +kernel) ⟨Nat.le_of_ble_eq_true rfl, Nat.le_of_ble_eq_true rfl⟩ ⟨Nat.le_of_ble_eq_true rfl, Nat.le_of_ble_eq_true rfl⟩ (Nat.le_of_ble_eq_true rfl) dX8_init_73 (fun gF5 hgF5 sgF5 => ?_)
  subst hgF5
  obtain ⟨ugF5, vgF5⟩ := sgF5
  refine ct_astq X 51 2 129 2 (v := (gF5 0).1) (vs := [.ref (ugF5 1), .int 0, .ref (ugF5 2), .ref (ugF5 5), .ref (ugF5 8), .ref (ugF5 10), .ref (ugF5 11), .ref (ugF5 13), .ref (ugF5 14), .int 0]) (r := (RX2, TX2, 10)) (f := (va_up (va_up (va_up (fun _ => none) (0 : Int32).toNatClampNeg (some (gF2 0).1)) (1 : Int32).toNatClampNeg (some (gF3 0).1)) (2 : Int32).toNatClampNeg (some (gF4 0).1))) (N' := 6) (by decide) (by decide) rfl rfl (Eq.trans (b := gF5 0) rfl (Prod.ext rfl ((congrArg Prod.snd (vgF5 0 (by decide))).trans rfl))) rfl (by unfold vp_in; decide) dX8_init_76 ?_
  refine ct_iinc X 4 [(1, .int 4), (0, .ref h0)] 0 rfl (by decide) (by decide) rfl dX8_init_77 ?_
  refine ct_goto X 58 dX8_init_80 rfl ?_
  refine ct_iload X 0 rfl rfl dX8_init_58 ?_
  refine ct_bipush X (6 : Int32) (by decide) dX8_init_59 ?_
  refine ct_icmpge X 83 dX8_init_61 rfl (fun h => absurd h (by decide)) (fun _ => ?_)
  refine ct_aload X 1 rfl rfl dX8_init_64 ?_
  refine ct_get X 0 (fs := [.ref (gF0 0).1, .ref (gF1 0).1, .ref qs, .int 0, .int 0, .ref (gB 0).1]) (v := .ref qs) (by decide) rfl rfl (fun w h => List.mem_cons_of_mem _ (List.mem_append_left _ (List.mem_append_left _ (List.mem_append_left _ (List.mem_append_left _ (List.mem_append_left _ (List.mem_append_left _ (List.mem_append_left _ (List.mem_append_right _ h))))))))) 2 (by decide) (List.mem_of_getElem? (i := 9) rfl) rfl dX8_init_65 ?_
  refine ct_iload X 0 rfl rfl dX8_init_68 ?_
  refine ct_new X 2 [.null, .int 0, .null, .null, .null, .null, .null, .null, .null, .int 0] rfl (fun w h => List.mem_cons_of_mem _ (List.mem_append_left _ (List.mem_append_left _ (List.mem_append_left _ (List.mem_append_left _ (List.mem_append_left _ (List.mem_append_left _ (List.mem_append_left _ (List.mem_append_left _ (List.mem_append_right _ h)))))))))) tyX2 tyX2_ok (List.mem_of_getElem? (i := 4) rfl) (List.mem_of_getElem? (i := 5) rfl) (List.mem_of_getElem? (i := 6) rfl) zz_X2 (Nat.le_of_ble_eq_true rfl) (Nat.le_of_ble_eq_true rfl) dX8_init_69 (fun bgF6 => ?_)
  refine ct_dup X dX8_init_72 ?_
  refine ct_call 25 24 197 154 X (c_X2_init _ A0 D c) (by decide) rfl (by decide) gX8_init_X2_init rfl rfl rfl (List.mem_of_getElem? (i := 6) rfl) (List.mem_of_getElem? (i := 16) rfl) (List.mem_of_getElem? (i := 17) rfl) rfl (by decide +kernel) ⟨Nat.le_of_ble_eq_true rfl, Nat.le_of_ble_eq_true rfl⟩ ⟨Nat.le_of_ble_eq_true rfl, Nat.le_of_ble_eq_true rfl⟩ (Nat.le_of_ble_eq_true rfl) dX8_init_73 (fun gF6 hgF6 sgF6 => ?_)
  subst hgF6
  obtain ⟨ugF6, vgF6⟩ := sgF6
  refine ct_astq X 51 2 154 2 (v := (gF6 0).1) (vs := [.ref (ugF6 1), .int 0, .ref (ugF6 2), .ref (ugF6 5), .ref (ugF6 8), .ref (ugF6 10), .ref (ugF6 11), .ref (ugF6 13), .ref (ugF6 14), .int 0]) (r := (RX2, TX2, 10)) (f := (va_up (va_up (va_up (va_up (fun _ => none) (0 : Int32).toNatClampNeg (some (gF2 0).1)) (1 : Int32).toNatClampNeg (some (gF3 0).1)) (2 : Int32).toNatClampNeg (some (gF4 0).1)) (3 : Int32).toNatClampNeg (some (gF5 0).1))) (N' := 6) (by decide) (by decide) rfl rfl (Eq.trans (b := gF6 0) rfl (Prod.ext rfl ((congrArg Prod.snd (vgF6 0 (by decide))).trans rfl))) rfl (by unfold vp_in; decide) dX8_init_76 ?_
  refine ct_iinc X 5 [(1, .int 5), (0, .ref h0)] 0 rfl (by decide) (by decide) rfl dX8_init_77 ?_
  refine ct_goto X 58 dX8_init_80 rfl ?_
  refine ct_iload X 0 rfl rfl dX8_init_58 ?_
  refine ct_bipush X (6 : Int32) (by decide) dX8_init_59 ?_
  refine ct_icmpge X 83 dX8_init_61 rfl (fun h => absurd h (by decide)) (fun _ => ?_)
  refine ct_aload X 1 rfl rfl dX8_init_64 ?_
  refine ct_get X 0 (fs := [.ref (gF0 0).1, .ref (gF1 0).1, .ref qs, .int 0, .int 0, .ref (gB 0).1]) (v := .ref qs) (by decide) rfl rfl (fun w h => List.mem_cons_of_mem _ (List.mem_append_left _ (List.mem_append_left _ (List.mem_append_left _ (List.mem_append_left _ (List.mem_append_left _ (List.mem_append_left _ (List.mem_append_left _ (List.mem_append_right _ h))))))))) 2 (by decide) (List.mem_of_getElem? (i := 9) rfl) rfl dX8_init_65 ?_
  refine ct_iload X 0 rfl rfl dX8_init_68 ?_
  refine ct_new X 2 [.null, .int 0, .null, .null, .null, .null, .null, .null, .null, .int 0] rfl (fun w h => List.mem_cons_of_mem _ (List.mem_append_left _ (List.mem_append_left _ (List.mem_append_left _ (List.mem_append_left _ (List.mem_append_left _ (List.mem_append_left _ (List.mem_append_left _ (List.mem_append_left _ (List.mem_append_right _ h)))))))))) tyX2 tyX2_ok (List.mem_of_getElem? (i := 4) rfl) (List.mem_of_getElem? (i := 5) rfl) (List.mem_of_getElem? (i := 6) rfl) zz_X2 (Nat.le_of_ble_eq_true rfl) (Nat.le_of_ble_eq_true rfl) dX8_init_69 (fun bgF7 => ?_)
  refine ct_dup X dX8_init_72 ?_
  refine ct_call 25 24 197 179 X (c_X2_init _ A0 D c) (by decide) rfl (by decide) gX8_init_X2_init rfl rfl rfl (List.mem_of_getElem? (i := 6) rfl) (List.mem_of_getElem? (i := 16) rfl) (List.mem_of_getElem? (i := 17) rfl) rfl (by decide +kernel) ⟨Nat.le_of_ble_eq_true rfl, Nat.le_of_ble_eq_true rfl⟩ ⟨Nat.le_of_ble_eq_true rfl, Nat.le_of_ble_eq_true rfl⟩ (Nat.le_of_ble_eq_true rfl) dX8_init_73 (fun gF7 hgF7 sgF7 => ?_)
  subst hgF7
  obtain ⟨ugF7, vgF7⟩ := sgF7
  refine ct_astq X 51 2 179 2 (v := (gF7 0).1) (vs := [.ref (ugF7 1), .int 0, .ref (ugF7 2), .ref (ugF7 5), .ref (ugF7 8), .ref (ugF7 10), .ref (ugF7 11), .ref (ugF7 13), .ref (ugF7 14), .int 0]) (r := (RX2, TX2, 10)) (f := (va_up (va_up (va_up (va_up (va_up (fun _ => none) (0 : Int32).toNatClampNeg (some (gF2 0).1)) (1 : Int32).toNatClampNeg (some (gF3 0).1)) (2 : Int32).toNatClampNeg (some (gF4 0).1)) (3 : Int32).toNatClampNeg (some (gF5 0).1)) (4 : Int32).toNatClampNeg (some (gF6 0).1))) (N' := 6) (by decide) (by decide) rfl rfl (Eq.trans (b := gF7 0) rfl (Prod.ext rfl ((congrArg Prod.snd (vgF7 0 (by decide))).trans rfl))) rfl (by unfold vp_in; decide) dX8_init_76 ?_
  refine ct_iinc X 6 [(1, .int 6), (0, .ref h0)] 0 rfl (by decide) (by decide) rfl dX8_init_77 ?_
  refine ct_goto X 58 dX8_init_80 rfl ?_
  refine ct_iload X 0 rfl rfl dX8_init_58 ?_
  refine ct_bipush X (6 : Int32) (by decide) dX8_init_59 ?_
  refine ct_icmpge X 83 dX8_init_61 rfl (fun _ => ?_) (fun h => absurd (by decide) h)
  refine ct_gen (fun gg hgg => ?_)
  have e0 : ∀ j, j < 25 → gg (1 + j) = gF0 j := fun j hj => by
    rcases (show j = 0 ∨ j = 1 ∨ j = 2 ∨ j = 3 ∨ j = 4 ∨ j = 5 ∨ j = 6 ∨ j = 7 ∨ j = 8 ∨ j = 9 ∨ j = 10 ∨ j = 11 ∨ j = 12 ∨ j = 13 ∨ j = 14 ∨ j = 15 ∨ j = 16 ∨ j = 17 ∨ j = 18 ∨ j = 19 ∨ j = 20 ∨ j = 21 ∨ j = 22 ∨ j = 23 ∨ j = 24 by omega) with rfl | rfl | rfl | rfl | rfl | rfl | rfl | rfl | rfl | rfl | rfl | rfl | rfl | rfl | rfl | rfl | rfl | rfl | rfl | rfl | rfl | rfl | rfl | rfl | rfl <;> exact congrFun hgg _
  have e1 : ∀ j, j < 25 → gg (26 + j) = gF1 j := fun j hj => by
    rcases (show j = 0 ∨ j = 1 ∨ j = 2 ∨ j = 3 ∨ j = 4 ∨ j = 5 ∨ j = 6 ∨ j = 7 ∨ j = 8 ∨ j = 9 ∨ j = 10 ∨ j = 11 ∨ j = 12 ∨ j = 13 ∨ j = 14 ∨ j = 15 ∨ j = 16 ∨ j = 17 ∨ j = 18 ∨ j = 19 ∨ j = 20 ∨ j = 21 ∨ j = 22 ∨ j = 23 ∨ j = 24 by omega) with rfl | rfl | rfl | rfl | rfl | rfl | rfl | rfl | rfl | rfl | rfl | rfl | rfl | rfl | rfl | rfl | rfl | rfl | rfl | rfl | rfl | rfl | rfl | rfl | rfl <;> exact congrFun hgg _
  have e2 : ∀ j, j < 25 → gg (54 + j) = gF2 j := fun j hj => by
    rcases (show j = 0 ∨ j = 1 ∨ j = 2 ∨ j = 3 ∨ j = 4 ∨ j = 5 ∨ j = 6 ∨ j = 7 ∨ j = 8 ∨ j = 9 ∨ j = 10 ∨ j = 11 ∨ j = 12 ∨ j = 13 ∨ j = 14 ∨ j = 15 ∨ j = 16 ∨ j = 17 ∨ j = 18 ∨ j = 19 ∨ j = 20 ∨ j = 21 ∨ j = 22 ∨ j = 23 ∨ j = 24 by omega) with rfl | rfl | rfl | rfl | rfl | rfl | rfl | rfl | rfl | rfl | rfl | rfl | rfl | rfl | rfl | rfl | rfl | rfl | rfl | rfl | rfl | rfl | rfl | rfl | rfl <;> exact congrFun hgg _
  have e3 : ∀ j, j < 25 → gg (79 + j) = gF3 j := fun j hj => by
    rcases (show j = 0 ∨ j = 1 ∨ j = 2 ∨ j = 3 ∨ j = 4 ∨ j = 5 ∨ j = 6 ∨ j = 7 ∨ j = 8 ∨ j = 9 ∨ j = 10 ∨ j = 11 ∨ j = 12 ∨ j = 13 ∨ j = 14 ∨ j = 15 ∨ j = 16 ∨ j = 17 ∨ j = 18 ∨ j = 19 ∨ j = 20 ∨ j = 21 ∨ j = 22 ∨ j = 23 ∨ j = 24 by omega) with rfl | rfl | rfl | rfl | rfl | rfl | rfl | rfl | rfl | rfl | rfl | rfl | rfl | rfl | rfl | rfl | rfl | rfl | rfl | rfl | rfl | rfl | rfl | rfl | rfl <;> exact congrFun hgg _
  have e4 : ∀ j, j < 25 → gg (104 + j) = gF4 j := fun j hj => by
    rcases (show j = 0 ∨ j = 1 ∨ j = 2 ∨ j = 3 ∨ j = 4 ∨ j = 5 ∨ j = 6 ∨ j = 7 ∨ j = 8 ∨ j = 9 ∨ j = 10 ∨ j = 11 ∨ j = 12 ∨ j = 13 ∨ j = 14 ∨ j = 15 ∨ j = 16 ∨ j = 17 ∨ j = 18 ∨ j = 19 ∨ j = 20 ∨ j = 21 ∨ j = 22 ∨ j = 23 ∨ j = 24 by omega) with rfl | rfl | rfl | rfl | rfl | rfl | rfl | rfl | rfl | rfl | rfl | rfl | rfl | rfl | rfl | rfl | rfl | rfl | rfl | rfl | rfl | rfl | rfl | rfl | rfl <;> exact congrFun hgg _
  have e5 : ∀ j, j < 25 → gg (129 + j) = gF5 j := fun j hj => by
    rcases (show j = 0 ∨ j = 1 ∨ j = 2 ∨ j = 3 ∨ j = 4 ∨ j = 5 ∨ j = 6 ∨ j = 7 ∨ j = 8 ∨ j = 9 ∨ j = 10 ∨ j = 11 ∨ j = 12 ∨ j = 13 ∨ j = 14 ∨ j = 15 ∨ j = 16 ∨ j = 17 ∨ j = 18 ∨ j = 19 ∨ j = 20 ∨ j = 21 ∨ j = 22 ∨ j = 23 ∨ j = 24 by omega) with rfl | rfl | rfl | rfl | rfl | rfl | rfl | rfl | rfl | rfl | rfl | rfl | rfl | rfl | rfl | rfl | rfl | rfl | rfl | rfl | rfl | rfl | rfl | rfl | rfl <;> exact congrFun hgg _
  have e6 : ∀ j, j < 25 → gg (154 + j) = gF6 j := fun j hj => by
    rcases (show j = 0 ∨ j = 1 ∨ j = 2 ∨ j = 3 ∨ j = 4 ∨ j = 5 ∨ j = 6 ∨ j = 7 ∨ j = 8 ∨ j = 9 ∨ j = 10 ∨ j = 11 ∨ j = 12 ∨ j = 13 ∨ j = 14 ∨ j = 15 ∨ j = 16 ∨ j = 17 ∨ j = 18 ∨ j = 19 ∨ j = 20 ∨ j = 21 ∨ j = 22 ∨ j = 23 ∨ j = 24 by omega) with rfl | rfl | rfl | rfl | rfl | rfl | rfl | rfl | rfl | rfl | rfl | rfl | rfl | rfl | rfl | rfl | rfl | rfl | rfl | rfl | rfl | rfl | rfl | rfl | rfl <;> exact congrFun hgg _
  have e7 : ∀ j, j < 25 → gg (179 + j) = gF7 j := fun j hj => by
    rcases (show j = 0 ∨ j = 1 ∨ j = 2 ∨ j = 3 ∨ j = 4 ∨ j = 5 ∨ j = 6 ∨ j = 7 ∨ j = 8 ∨ j = 9 ∨ j = 10 ∨ j = 11 ∨ j = 12 ∨ j = 13 ∨ j = 14 ∨ j = 15 ∨ j = 16 ∨ j = 17 ∨ j = 18 ∨ j = 19 ∨ j = 20 ∨ j = 21 ∨ j = 22 ∨ j = 23 ∨ j = 24 by omega) with rfl | rfl | rfl | rfl | rfl | rfl | rfl | rfl | rfl | rfl | rfl | rfl | rfl | rfl | rfl | rfl | rfl | rfl | rfl | rfl | rfl | rfl | rfl | rfl | rfl <;> exact congrFun hgg _
  have k0 : gg 0 = (h0, .inr (8, [.ref (gF0 0).1, .ref (gF1 0).1, .ref qs, .int 0, .int 0, .ref (gB 0).1])) := congrFun hgg 0
  have k1 : gg 51 = (qs, .inl (c 2, 6, .inr (.inr (.inr (.inr (va_up (va_up (va_up (va_up (va_up (va_up (fun _ => none) (0 : Int32).toNatClampNeg (some (gF2 0).1)) (1 : Int32).toNatClampNeg (some (gF3 0).1)) (2 : Int32).toNatClampNeg (some (gF4 0).1)) (3 : Int32).toNatClampNeg (some (gF5 0).1)) (4 : Int32).toNatClampNeg (some (gF6 0).1)) (5 : Int32).toNatClampNeg (some (gF7 0).1))))))) := congrFun hgg 51
  have k2 : gg 52 = gB 0 := congrFun hgg 52
  have k3 : gg 53 = gB 1 := congrFun hgg 53
  clear hgg
  refine ct_refs 51 (fun k => some ((uC ugF0 ugF1 ugF2 ugF3 ugF4 ugF5 ugF6 ugF7 h0 qs (gB 0).1 (gB 1).1) (k + 2) 0)) (by decide) k1 (fun j hj => ?_) ?_
  · rcases (show j = 0 ∨ j = 1 ∨ j = 2 ∨ j = 3 ∨ j = 4 ∨ j = 5 by omega) with rfl | rfl | rfl | rfl | rfl | rfl
    · exact congrArg (fun x : Nat × va_E => some x.1) (vgF2 0 (by decide))
    · exact congrArg (fun x : Nat × va_E => some x.1) (vgF3 0 (by decide))
    · exact congrArg (fun x : Nat × va_E => some x.1) (vgF4 0 (by decide))
    · exact congrArg (fun x : Nat × va_E => some x.1) (vgF5 0 (by decide))
    · exact congrArg (fun x : Nat × va_E => some x.1) (vgF6 0 (by decide))
    · exact congrArg (fun x : Nat × va_E => some x.1) (vgF7 0 (by decide))
  · refine ct_ret X (post := fun g => (g 0).1 = h0 ∧ csp c g) ⟨(congrArg Prod.fst (gu_ne (by decide))).trans (congrArg Prod.fst k0), (uC ugF0 ugF1 ugF2 ugF3 ugF4 ugF5 ugF6 ugF7 h0 qs (gB 0).1 (gB 1).1), fun f j hf hj => ?_, ?_, ?_, ?_, ?_⟩ dX8_init_83
    · rcases (show f = 0 ∨ f = 1 ∨ f = 2 ∨ f = 3 ∨ f = 4 ∨ f = 5 ∨ f = 6 ∨ f = 7 by omega) with rfl | rfl | rfl | rfl | rfl | rfl | rfl | rfl
      · exact (gu_ne (show 1 + j ≠ 51 by omega)).trans ((e0 j hj).trans ((vgF0 j hj).trans rfl))
      · exact (gu_ne (show 26 + j ≠ 51 by omega)).trans ((e1 j hj).trans ((vgF1 j hj).trans rfl))
      · exact (gu_ne (show 54 + j ≠ 51 by omega)).trans ((e2 j hj).trans ((vgF2 j hj).trans rfl))
      · exact (gu_ne (show 79 + j ≠ 51 by omega)).trans ((e3 j hj).trans ((vgF3 j hj).trans rfl))
      · exact (gu_ne (show 104 + j ≠ 51 by omega)).trans ((e4 j hj).trans ((vgF4 j hj).trans rfl))
      · exact (gu_ne (show 129 + j ≠ 51 by omega)).trans ((e5 j hj).trans ((vgF5 j hj).trans rfl))
      · exact (gu_ne (show 154 + j ≠ 51 by omega)).trans ((e6 j hj).trans ((vgF6 j hj).trans rfl))
      · exact (gu_ne (show 179 + j ≠ 51 by omega)).trans ((e7 j hj).trans ((vgF7 j hj).trans rfl))
    · refine (gu_ne (by decide)).trans (k0.trans ?_)
      refine Prod.ext rfl ?_
      rw [show (gF0 0).1 = ugF0 0 from congrArg Prod.fst (vgF0 0 (by decide)), show (gF1 0).1 = ugF1 0 from congrArg Prod.fst (vgF1 0 (by decide))]
      rfl
    · exact gu_eq.trans (Prod.ext rfl rfl)
    · exact (gu_ne (by decide)).trans (k2.trans (Prod.ext rfl (sgB.1.trans rfl)))
    · exact (gu_ne (by decide)).trans (k3.trans (Prod.ext rfl (sgB.2.trans rfl)))
