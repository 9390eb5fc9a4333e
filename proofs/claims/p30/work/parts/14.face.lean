abbrev rm_X8_isWithin : Room := { frames := 0, cells := 0, slots := 0, locals := 0 }
set_option maxHeartbeats 4000000 in
set_option maxRecDepth 100000 in
theorem c_X8_isWithin (l : Launch) (E : cr_E) (hEK : cr_EK E) (S : cr_S) (p0 : Int32) (p1 : Int32) (p2 : Int32) : cr_M l E yX8_isWithin wsX8_isWithin rm_X8_isWithin [.int p0, .int p1, .int p2] S (cr_vB S) (s_X8_isWithin p0 p1 p2) := by
  refine cr_enter (cc := cX8_isWithin) (nL := 3) (rt := (some .boolean)) hEK (by decide) rfl (Nat.le_of_ble_eq_true rfl) (fun Γ hΓ X => ?_)
  subst hΓ
  have X : cr_X Γ E cX8_isWithin 3 RX8 wsX8_isWithin rm_X8_isWithin (some .boolean) := X
  unfold s_X8_isWithin
  show cr_P Γ E 3 _ 0 0 S 0 ([(0, .int p0), (1, .int p1), (2, .int p2)]) [] _
  refine cr_iload_n X 0 rfl dX8_isWithin_0 ?_
  refine cr_iload_n X 1 rfl dX8_isWithin_1 ?_
  refine cr_icmp_lt X 14 dX8_isWithin_2 rfl ?_ ?_
  · refine cr_iconst X (0 : Int32) (by decide) dX8_isWithin_14 ?_
    exact cr_zret X false rfl rfl rfl dX8_isWithin_15
  · refine cr_iload_n X 0 rfl dX8_isWithin_5 ?_
    refine cr_iload_n X 2 rfl dX8_isWithin_6 ?_
    refine cr_icmp_gt X 14 dX8_isWithin_7 rfl ?_ ?_
    · refine cr_iconst X (0 : Int32) (by decide) dX8_isWithin_14 ?_
      exact cr_zret X false rfl rfl rfl dX8_isWithin_15
    · refine cr_iconst X (1 : Int32) (by decide) dX8_isWithin_10 ?_
      refine cr_goto X 15 dX8_isWithin_11 rfl ?_
      exact cr_zret X true rfl rfl rfl dX8_isWithin_15
theorem k_X8_saveState_1 : (Cond.fieldLink RX8 19 "CraneCampaign" "saved" "[LCraneCampaign$Farm;") ∈ wsX8_saveState := List.mem_of_getElem? (i := 1) (by rfl)
theorem k_X8_saveState_2 : (Cond.fieldLink RX8 23 "CraneCampaign" "oldestSaved" "I") ∈ wsX8_saveState := List.mem_of_getElem? (i := 2) (by rfl)
theorem k_X8_saveState_3 : (Cond.fieldLink RX8 27 "CraneCampaign" "savedCount" "I") ∈ wsX8_saveState := List.mem_of_getElem? (i := 3) (by rfl)
theorem k_X8_saveState_4 : (Cond.fieldLink RX8 10 "CraneCampaign" "farm" "LCraneCampaign$Farm;") ∈ wsX8_saveState := List.mem_of_getElem? (i := 4) (by rfl)
theorem i_X8_saveState_X8 : ∀ w ∈ wsX80, w ∈ wsX8_saveState := by decide +kernel
abbrev rm_X8_saveState : Room := { frames := 3, cells := 0, slots := 0, locals := 83 }
set_option maxHeartbeats 4000000 in
set_option maxRecDepth 100000 in
theorem c_X8_saveState (l : Launch) (E : cr_E) (hEK : cr_EK E) (S : cr_S) : cr_M l E yX8_saveState wsX8_saveState rm_X8_saveState [.ref (E.2.1 8 0)] S cr_vVS (s_X8_saveState S) := by
  refine cr_enter (cc := cX8_saveState) (nL := 1) (rt := none) hEK (by decide) rfl (Nat.le_of_ble_eq_true rfl) (fun Γ hΓ X => ?_)
  subst hΓ
  have X : cr_X Γ E cX8_saveState 1 RX8 wsX8_saveState rm_X8_saveState none := X
  unfold s_X8_saveState
  show cr_P Γ E 1 _ 0 0 S 0 ([(0, .ref (E.2.1 8 0))]) [] _
  refine cr_aload_n X 0 rfl dX8_saveState_0 ?_
  refine cr_get X ((cr_b0 E).at rfl rfl) rfl i_X8_saveState_X8 2 (by decide) k_X8_saveState_1 rfl dX8_saveState_1 ?_
  refine cr_aload_n X 0 rfl dX8_saveState_4 ?_
  refine cr_get X ((cr_b0 E).at rfl rfl) rfl i_X8_saveState_X8 3 (by decide) k_X8_saveState_2 rfl dX8_saveState_5 ?_
  refine cr_aload_n X 0 rfl dX8_saveState_8 ?_
  refine cr_get X ((cr_b0 E).at rfl rfl) rfl i_X8_saveState_X8 4 (by decide) k_X8_saveState_3 rfl dX8_saveState_9 ?_
  refine cr_iadd X dX8_saveState_12 ?_
  refine cr_bipush X (6 : Int32) (by decide) dX8_saveState_13 ?_
  refine cr_iremk X (by decide) dX8_saveState_15 ?_
  refine cr_aald X 2 rfl ((cr_b1 E).at rfl rfl) dX8_saveState_16 (fun k16_1 hk16_1 => ?_)
  refine cr_aload_n X 0 rfl dX8_saveState_17 ?_
  refine cr_get X ((cr_b0 E).at rfl rfl) rfl i_X8_saveState_X8 0 (by decide) k_X8_saveState_4 rfl dX8_saveState_18 ?_
  refine cr_callV X (As := [.ref (E.2.1 0 0)]) (rest := []) (c_X2_copyFrom_S Γ.2.1 E hEK S (show k16_1 + 2 < 8 by omega) (show 0 < 8 by decide) (show (0 : Nat) ≠ k16_1 + 2 by omega)) ((cr_a0 E (show k16_1 + 2 < 8 by omega)).at rfl rfl) rfl 1 gX8_saveState_X2_copyFrom rfl rfl rfl (by decide +kernel) ⟨Nat.le_of_ble_eq_true rfl, Nat.le_of_ble_eq_true rfl⟩ (by decide) rfl rfl (Nat.le_of_ble_eq_true rfl) dX8_saveState_21 (fun r21_2 => ?_)
  show cr_P Γ E 1 _ 0 0 (cr_us S (k16_1 + 2) r21_2) 24 ([(0, .ref (E.2.1 8 0))]) ([]) _
  refine cr_bds (fun S21_3 => ?_)
  refine cr_aload_n X 0 rfl dX8_saveState_24 ?_
  refine cr_get X ((cr_b0 E).at rfl rfl) rfl i_X8_saveState_X8 4 (by decide) k_X8_saveState_3 rfl dX8_saveState_25 ?_
  refine cr_bipush X (6 : Int32) (by decide) dX8_saveState_28 ?_
  refine cr_icmp_ge X 46 dX8_saveState_30 rfl ?_ ?_
  · refine cr_aload_n X 0 rfl dX8_saveState_46 ?_
    refine cr_aload_n X 0 rfl dX8_saveState_47 ?_
    refine cr_get X ((cr_b0 E).at rfl rfl) rfl i_X8_saveState_X8 3 (by decide) k_X8_saveState_2 rfl dX8_saveState_48 ?_
    refine cr_iconst X (1 : Int32) (by decide) dX8_saveState_51 ?_
    refine cr_iadd X dX8_saveState_52 ?_
    refine cr_bipush X (6 : Int32) (by decide) dX8_saveState_53 ?_
    refine cr_iremk X (by decide) dX8_saveState_55 ?_
    refine cr_putS X (cr_b0 E) 3 rfl rfl rfl i_X8_saveState_X8 tyX8 tyX8_ok nmX8 (by decide) k_X8_saveState_2 rfl rfl rfl (Nat.le_of_ble_eq_true rfl) dX8_saveState_56 (fun S56_4 => ?_)
    exact cr_vret X rfl rfl dX8_saveState_59
  · refine cr_aload_n X 0 rfl dX8_saveState_33 ?_
    refine cr_dup X rfl dX8_saveState_34 ?_
    refine cr_get X ((cr_b0 E).at rfl rfl) rfl i_X8_saveState_X8 4 (by decide) k_X8_saveState_3 rfl dX8_saveState_35 ?_
    refine cr_iconst X (1 : Int32) (by decide) dX8_saveState_38 ?_
    refine cr_iadd X dX8_saveState_39 ?_
    refine cr_putS X (cr_b0 E) 4 rfl rfl rfl i_X8_saveState_X8 tyX8 tyX8_ok nmX8 (by decide) k_X8_saveState_3 rfl rfl rfl (Nat.le_of_ble_eq_true rfl) dX8_saveState_40 (fun S40_5 => ?_)
    refine cr_goto X 59 dX8_saveState_43 rfl ?_
    exact cr_vret X rfl rfl dX8_saveState_59
theorem k_X8_addTurbine_5 : (Cond.fieldLink RX8 10 "CraneCampaign" "farm" "LCraneCampaign$Farm;") ∈ wsX8_addTurbine := List.mem_of_getElem? (i := 5) (by rfl)
theorem k_X8_addTurbine_6 : (Cond.fieldLink RX8 48 "CraneCampaign$Farm" "turbineCount" "I") ∈ wsX8_addTurbine := List.mem_of_getElem? (i := 6) (by rfl)
theorem i_X8_addTurbine_X2 : ∀ w ∈ wsX20, w ∈ wsX8_addTurbine := by decide +kernel
theorem i_X8_addTurbine_X8 : ∀ w ∈ wsX80, w ∈ wsX8_addTurbine := by decide +kernel
abbrev rm_X8_addTurbine : Room := { frames := 4, cells := 0, slots := 0, locals := 103 }
set_option maxHeartbeats 4000000 in
set_option maxRecDepth 100000 in
theorem b_X8_addTurbine_32 {Γ : cr_C} {E : cr_E} (X : cr_X Γ E cX8_addTurbine 4 RX8 wsX8_addTurbine rm_X8_addTurbine (some .int))  (S : cr_S) : cr_P Γ E 4 (cr_F Γ E cr_vIS) 0 0 S 32 ([]) ([]) (t_X8_addTurbine_32 S) := by
  have hEK := X.2.2.2.2.2.2.1
  unfold t_X8_addTurbine_32
  exact cr_none
set_option maxHeartbeats 4000000 in
set_option maxRecDepth 100000 in
theorem b_X8_addTurbine_65 {Γ : cr_C} {E : cr_E} (X : cr_X Γ E cX8_addTurbine 4 RX8 wsX8_addTurbine rm_X8_addTurbine (some .int))  (S : cr_S) : cr_P Γ E 4 (cr_F Γ E cr_vIS) 0 0 S 65 ([]) ([]) (t_X8_addTurbine_65 S) := by
  have hEK := X.2.2.2.2.2.2.1
  unfold t_X8_addTurbine_65
  exact cr_none
set_option maxHeartbeats 4000000 in
set_option maxRecDepth 100000 in
theorem c_X8_addTurbine (l : Launch) (E : cr_E) (hEK : cr_EK E) (S : cr_S) (p1 : Int32) (p2 : Int32) (p3 : Int32) : cr_M l E yX8_addTurbine wsX8_addTurbine rm_X8_addTurbine [.ref (E.2.1 8 0), .int p1, .int p2, .int p3] S cr_vIS (t_X8_addTurbine p1 p2 p3 S) := by
  refine cr_enter (cc := cX8_addTurbine) (nL := 4) (rt := (some .int)) hEK (by decide) rfl (Nat.le_of_ble_eq_true rfl) (fun Γ hΓ X => ?_)
  subst hΓ
  have X : cr_X Γ E cX8_addTurbine 4 RX8 wsX8_addTurbine rm_X8_addTurbine (some .int) := X
  unfold t_X8_addTurbine
  show cr_P Γ E 4 _ 0 0 S 0 ([(0, .ref (E.2.1 8 0)), (1, .int p1), (2, .int p2), (3, .int p3)]) [] _
  refine cr_iload_n X 1 rfl dX8_addTurbine_0 ?_
  refine cr_iconst X (1 : Int32) (by decide) dX8_addTurbine_1 ?_
  refine cr_bipush X (99 : Int32) (by decide) dX8_addTurbine_2 ?_
  refine cr_callS X (As := [.int p1, .int ((1 : Int32)), .int ((99 : Int32))]) (rest := []) (c_X8_isWithin Γ.2.1 E hEK S p1 ((1 : Int32)) ((99 : Int32))) 3 gX8_addTurbine_X8_isWithin rfl rfl rfl (by decide +kernel) ⟨Nat.le_of_ble_eq_true rfl, Nat.le_of_ble_eq_true rfl⟩ (by decide) rfl rfl (Nat.le_of_ble_eq_true rfl) dX8_addTurbine_4 (fun r4_1 => ?_)
  show cr_P Γ E 4 _ 0 0 S 7 ([(0, .ref (E.2.1 8 0)), (1, .int p1), (2, .int p2), (3, .int p3)]) ([.int (cr_b r4_1)]) _
  refine cr_ifb_eq X 32 dX8_addTurbine_7 rfl ?_ ?_
  · refine cr_sub (lv' := []) [] rfl ?_
    exact b_X8_addTurbine_32 X S
  · refine cr_iload_n X 2 rfl dX8_addTurbine_10 ?_
    refine cr_bipush X (50 : Int32) (by decide) dX8_addTurbine_11 ?_
    refine cr_sipush X (160 : Int32) (by decide) dX8_addTurbine_13 ?_
    refine cr_callS X (As := [.int p2, .int ((50 : Int32)), .int ((160 : Int32))]) (rest := []) (c_X8_isWithin Γ.2.1 E hEK S p2 ((50 : Int32)) ((160 : Int32))) 3 gX8_addTurbine_X8_isWithin rfl rfl rfl (by decide +kernel) ⟨Nat.le_of_ble_eq_true rfl, Nat.le_of_ble_eq_true rfl⟩ (by decide) rfl rfl (Nat.le_of_ble_eq_true rfl) dX8_addTurbine_16 (fun r16_2 => ?_)
    show cr_P Γ E 4 _ 0 0 S 19 ([(0, .ref (E.2.1 8 0)), (1, .int p1), (2, .int p2), (3, .int p3)]) ([.int (cr_b r16_2)]) _
    refine cr_ifb_eq X 32 dX8_addTurbine_19 rfl ?_ ?_
    · refine cr_sub (lv' := []) [] rfl ?_
      exact b_X8_addTurbine_32 X S
    · refine cr_iload_n X 3 rfl dX8_addTurbine_22 ?_
      refine cr_iconst X (1 : Int32) (by decide) dX8_addTurbine_23 ?_
      refine cr_bipush X (50 : Int32) (by decide) dX8_addTurbine_24 ?_
      refine cr_callS X (As := [.int p3, .int ((1 : Int32)), .int ((50 : Int32))]) (rest := []) (c_X8_isWithin Γ.2.1 E hEK S p3 ((1 : Int32)) ((50 : Int32))) 3 gX8_addTurbine_X8_isWithin rfl rfl rfl (by decide +kernel) ⟨Nat.le_of_ble_eq_true rfl, Nat.le_of_ble_eq_true rfl⟩ (by decide) rfl rfl (Nat.le_of_ble_eq_true rfl) dX8_addTurbine_26 (fun r26_3 => ?_)
      show cr_P Γ E 4 _ 0 0 S 29 ([(0, .ref (E.2.1 8 0)), (1, .int p1), (2, .int p2), (3, .int p3)]) ([.int (cr_b r26_3)]) _
      refine cr_ifb_ne X 42 dX8_addTurbine_29 rfl ?_ ?_
      · refine cr_aload_n X 0 rfl dX8_addTurbine_42 ?_
        refine cr_get X ((cr_b0 E).at rfl rfl) rfl i_X8_addTurbine_X8 0 (by decide) k_X8_addTurbine_5 rfl dX8_addTurbine_43 ?_
        refine cr_get X ((cr_a0 E (show 0 < 8 by decide)).at rfl rfl) rfl i_X8_addTurbine_X2 1 (by decide) k_X8_addTurbine_6 rfl dX8_addTurbine_46 ?_
        refine cr_bipush X (10 : Int32) (by decide) dX8_addTurbine_49 ?_
        refine cr_icmp_ge X 65 dX8_addTurbine_51 rfl ?_ ?_
        · refine cr_sub (lv' := []) [] rfl ?_
          exact b_X8_addTurbine_65 X S
        · refine cr_aload_n X 0 rfl dX8_addTurbine_54 ?_
          refine cr_get X ((cr_b0 E).at rfl rfl) rfl i_X8_addTurbine_X8 0 (by decide) k_X8_addTurbine_5 rfl dX8_addTurbine_55 ?_
          refine cr_iload_n X 1 rfl dX8_addTurbine_58 ?_
          refine cr_callV X (As := [.int p1]) (rest := []) (c_X2_hasTurbineAt_S Γ.2.1 E hEK S (show 0 < 8 by decide) p1) ((cr_a0 E (show 0 < 8 by decide)).at rfl rfl) rfl 1 gX8_addTurbine_X2_hasTurbineAt rfl rfl rfl (by decide +kernel) ⟨Nat.le_of_ble_eq_true rfl, Nat.le_of_ble_eq_true rfl⟩ (by decide) rfl rfl (Nat.le_of_ble_eq_true rfl) dX8_addTurbine_59 (fun r59_4 => ?_)
          show cr_P Γ E 4 _ 0 0 S 62 ([(0, .ref (E.2.1 8 0)), (1, .int p1), (2, .int p2), (3, .int p3)]) ([.int (cr_b r59_4)]) _
          refine cr_ifb_eq X 75 dX8_addTurbine_62 rfl ?_ ?_
          · refine cr_aload_n X 0 rfl dX8_addTurbine_75 ?_
            refine cr_callV X (As := []) (rest := []) (c_X8_saveState Γ.2.1 E hEK S) ((cr_b0 E).at rfl rfl) rfl 0 gX8_addTurbine_X8_saveState rfl rfl rfl (by decide +kernel) ⟨Nat.le_of_ble_eq_true rfl, Nat.le_of_ble_eq_true rfl⟩ (by decide) rfl rfl (Nat.le_of_ble_eq_true rfl) dX8_addTurbine_76 (fun r76_5 => ?_)
            show cr_P Γ E 4 _ 0 0 r76_5 79 ([(0, .ref (E.2.1 8 0)), (1, .int p1), (2, .int p2), (3, .int p3)]) ([]) _
            refine cr_aload_n X 0 rfl dX8_addTurbine_79 ?_
            refine cr_get X ((cr_b0 E).at rfl rfl) rfl i_X8_addTurbine_X8 0 (by decide) k_X8_addTurbine_5 rfl dX8_addTurbine_80 ?_
            refine cr_iload_n X 1 rfl dX8_addTurbine_83 ?_
            refine cr_iload_n X 2 rfl dX8_addTurbine_84 ?_
            refine cr_iload_n X 3 rfl dX8_addTurbine_85 ?_
            refine cr_callV X (As := [.int p1, .int p2, .int p3]) (rest := []) (c_X2_buildTurbine_S Γ.2.1 E hEK r76_5 (show 0 < 8 by decide) p1 p2 p3) ((cr_a0 E (show 0 < 8 by decide)).at rfl rfl) rfl 3 gX8_addTurbine_X2_buildTurbine rfl rfl rfl (by decide +kernel) ⟨Nat.le_of_ble_eq_true rfl, Nat.le_of_ble_eq_true rfl⟩ (by decide) rfl rfl (Nat.le_of_ble_eq_true rfl) dX8_addTurbine_86 (fun r86_6 => ?_)
            show cr_P Γ E 4 _ 0 0 (cr_us r76_5 0 r86_6.2) 89 ([(0, .ref (E.2.1 8 0)), (1, .int p1), (2, .int p2), (3, .int p3)]) ([.int r86_6.1]) _
            refine cr_bds (fun S86_7 => ?_)
            exact cr_iret X rfl rfl dX8_addTurbine_89
          · refine cr_sub (lv' := []) [] rfl ?_
            exact b_X8_addTurbine_65 X S
      · refine cr_sub (lv' := []) [] rfl ?_
        exact b_X8_addTurbine_32 X S
theorem k_X8_append_5 : (Cond.fieldLink RX8 33 "CraneCampaign" "buffer" "LCraneCampaign$WindText;") ∈ wsX8_append := List.mem_of_getElem? (i := 5) (by rfl)
theorem k_X8_append_6 : (Cond.fieldLink RX8 186 "CraneCampaign$WindText" "length" "I") ∈ wsX8_append := List.mem_of_getElem? (i := 6) (by rfl)
theorem i_X8_append_X6 : ∀ w ∈ wsX60, w ∈ wsX8_append := by decide +kernel
theorem i_X8_append_X8 : ∀ w ∈ wsX80, w ∈ wsX8_append := by decide +kernel
abbrev rm_X8_append : Room := { frames := 2, cells := 0, slots := 0, locals := 41 }
set_option maxHeartbeats 4000000 in
set_option maxRecDepth 100000 in
theorem c_X8_append (l : Launch) (E : cr_E) (hEK : cr_EK E) (S : cr_S) (p1 : Int32) : cr_M l E yX8_append wsX8_append rm_X8_append [.ref (E.2.1 8 0), .int p1] S cr_vIS (t_X8_append p1 S) := by
  refine cr_enter (cc := cX8_append) (nL := 2) (rt := (some .int)) hEK (by decide) rfl (Nat.le_of_ble_eq_true rfl) (fun Γ hΓ X => ?_)
  subst hΓ
  have X : cr_X Γ E cX8_append 2 RX8 wsX8_append rm_X8_append (some .int) := X
  unfold t_X8_append
  show cr_P Γ E 2 _ 0 0 S 0 ([(0, .ref (E.2.1 8 0)), (1, .int p1)]) [] _
  refine cr_iload_n X 1 rfl dX8_append_0 ?_
  refine cr_bipush X (33 : Int32) (by decide) dX8_append_1 ?_
  refine cr_bipush X (126 : Int32) (by decide) dX8_append_3 ?_
  refine cr_callS X (As := [.int p1, .int ((33 : Int32)), .int ((126 : Int32))]) (rest := []) (c_X8_isWithin Γ.2.1 E hEK S p1 ((33 : Int32)) ((126 : Int32))) 3 gX8_append_X8_isWithin rfl rfl rfl (by decide +kernel) ⟨Nat.le_of_ble_eq_true rfl, Nat.le_of_ble_eq_true rfl⟩ (by decide) rfl rfl (Nat.le_of_ble_eq_true rfl) dX8_append_5 (fun r5_1 => ?_)
  show cr_P Γ E 2 _ 0 0 S 8 ([(0, .ref (E.2.1 8 0)), (1, .int p1)]) ([.int (cr_b r5_1)]) _
  refine cr_ifb_ne X 21 dX8_append_8 rfl ?_ ?_
  · refine cr_aload_n X 0 rfl dX8_append_21 ?_
    refine cr_get X ((cr_b0 E).at rfl rfl) rfl i_X8_append_X8 5 (by decide) k_X8_append_5 rfl dX8_append_22 ?_
    refine cr_callV X (As := []) (rest := []) (c_X6_isFull_S Γ.2.1 E hEK S) ((cr_b2 E).at rfl rfl) rfl 0 gX8_append_X6_isFull rfl rfl rfl (by decide +kernel) ⟨Nat.le_of_ble_eq_true rfl, Nat.le_of_ble_eq_true rfl⟩ (by decide) rfl rfl (Nat.le_of_ble_eq_true rfl) dX8_append_25 (fun r25_2 => ?_)
    show cr_P Γ E 2 _ 0 0 S 28 ([(0, .ref (E.2.1 8 0)), (1, .int p1)]) ([.int (cr_b r25_2)]) _
    refine cr_ifb_eq X 41 dX8_append_28 rfl ?_ ?_
    · refine cr_aload_n X 0 rfl dX8_append_41 ?_
      refine cr_get X ((cr_b0 E).at rfl rfl) rfl i_X8_append_X8 5 (by decide) k_X8_append_5 rfl dX8_append_42 ?_
      refine cr_iload_n X 1 rfl dX8_append_45 ?_
      refine cr_callV X (As := [.int p1]) (rest := []) (c_X6_add_S Γ.2.1 E hEK S p1) ((cr_b2 E).at rfl rfl) rfl 1 gX8_append_X6_add rfl rfl rfl (by decide +kernel) ⟨Nat.le_of_ble_eq_true rfl, Nat.le_of_ble_eq_true rfl⟩ (by decide) rfl rfl (Nat.le_of_ble_eq_true rfl) dX8_append_46 (fun r46_3 => ?_)
      show cr_P Γ E 2 _ 0 0 (cr_us S 8 r46_3) 49 ([(0, .ref (E.2.1 8 0)), (1, .int p1)]) ([]) _
      refine cr_bds (fun S46_4 => ?_)
      refine cr_aload_n X 0 rfl dX8_append_49 ?_
      refine cr_get X ((cr_b0 E).at rfl rfl) rfl i_X8_append_X8 5 (by decide) k_X8_append_5 rfl dX8_append_50 ?_
      refine cr_get X ((cr_b2 E).at rfl rfl) rfl i_X8_append_X6 1 (by decide) k_X8_append_6 rfl dX8_append_53 ?_
      exact cr_iret X rfl rfl dX8_append_56
    · exact cr_none
  · exact cr_none
theorem k_X8_bestFirst_1 : (Cond.fieldLink RX8 10 "CraneCampaign" "farm" "LCraneCampaign$Farm;") ∈ wsX8_bestFirst := List.mem_of_getElem? (i := 1) (by rfl)
theorem k_X8_bestFirst_2 : (Cond.fieldLink RX8 125 "CraneCampaign$Farm" "plan" "LCraneCampaign$Plan;") ∈ wsX8_bestFirst := List.mem_of_getElem? (i := 2) (by rfl)
theorem k_X8_bestFirst_3 : (Cond.fieldLink RX8 142 "CraneCampaign$Plan" "count" "I") ∈ wsX8_bestFirst := List.mem_of_getElem? (i := 3) (by rfl)
theorem k_X8_bestFirst_4 : (Cond.fieldLink RX8 263 "CraneCampaign$Plan" "row" "[I") ∈ wsX8_bestFirst := List.mem_of_getElem? (i := 4) (by rfl)
theorem k_X8_bestFirst_5 : (Cond.fieldLink RX8 16 "CraneCampaign" "trial" "LCraneCampaign$Farm;") ∈ wsX8_bestFirst := List.mem_of_getElem? (i := 5) (by rfl)
theorem i_X8_bestFirst_X2 : ∀ w ∈ wsX20, w ∈ wsX8_bestFirst := by decide +kernel
theorem i_X8_bestFirst_X4 : ∀ w ∈ wsX40, w ∈ wsX8_bestFirst := by decide +kernel
theorem i_X8_bestFirst_X8 : ∀ w ∈ wsX80, w ∈ wsX8_bestFirst := by decide +kernel
abbrev rm_X8_bestFirst : Room := { frames := 5, cells := 0, slots := 0, locals := 119 }
set_option maxHeartbeats 4000000 in
set_option maxRecDepth 100000 in
theorem b_X8_bestFirst_6 {Γ : cr_C} {E : cr_E} (X : cr_X Γ E cX8_bestFirst 6 RX8 wsX8_bestFirst rm_X8_bestFirst (some .int)) : ∀ (n : Nat) (x1 : Int32) (x2 : Int32) (x3 : Int32) (S : cr_S), cr_P Γ E 6 (cr_F Γ E cr_vIS) 0 0 S 6 ([(0, .ref (E.2.1 8 0)), (1, .int x1), (2, .int x2), (3, .int x3)]) ([]) (s_X8_bestFirst_6 n x1 x2 x3 S) := by
  have hEK := X.2.2.2.2.2.2.1
  intro n
  induction n with
  | zero => intro x1 x2 x3 S; exact cr_none
  | succ n ih =>
    intro x1 x2 x3 S
    rw [s_X8_bestFirst_6]
    refine cr_iload_n X 3 rfl dX8_bestFirst_6 ?_
    refine cr_aload_n X 0 rfl dX8_bestFirst_7 ?_
    refine cr_get X ((cr_b0 E).at rfl rfl) rfl i_X8_bestFirst_X8 0 (by decide) k_X8_bestFirst_1 rfl dX8_bestFirst_8 ?_
    refine cr_get X ((cr_a0 E (show 0 < 8 by decide)).at rfl rfl) rfl i_X8_bestFirst_X2 4 (by decide) k_X8_bestFirst_2 rfl dX8_bestFirst_11 ?_
    refine cr_get X ((cr_a8 E (show 0 < 8 by decide)).at rfl rfl) rfl i_X8_bestFirst_X4 1 (by decide) k_X8_bestFirst_3 rfl dX8_bestFirst_14 ?_
    refine cr_icmp_ge X 92 dX8_bestFirst_17 rfl ?_ ?_
    · refine cr_iload_n X 1 rfl dX8_bestFirst_92 ?_
      exact cr_iret X rfl rfl dX8_bestFirst_93
    · refine cr_aload_n X 0 rfl dX8_bestFirst_20 ?_
      refine cr_get X ((cr_b0 E).at rfl rfl) rfl i_X8_bestFirst_X8 0 (by decide) k_X8_bestFirst_1 rfl dX8_bestFirst_21 ?_
      refine cr_get X ((cr_a0 E (show 0 < 8 by decide)).at rfl rfl) rfl i_X8_bestFirst_X2 4 (by decide) k_X8_bestFirst_2 rfl dX8_bestFirst_24 ?_
      refine cr_get X ((cr_a8 E (show 0 < 8 by decide)).at rfl rfl) rfl i_X8_bestFirst_X4 0 (by decide) k_X8_bestFirst_4 rfl dX8_bestFirst_27 ?_
      refine cr_iload_n X 3 rfl dX8_bestFirst_30 ?_
      refine cr_iald X ((cr_a9 E (show 0 < 8 by decide)).at rfl rfl) dX8_bestFirst_31 ?_
      refine cr_istoreb X (fun v32_1 => [(4, .int v32_1), (0, .ref (E.2.1 8 0)), (1, .int x1), (2, .int x2), (3, .int x3)]) (fun _ => rfl) (by decide) dX8_bestFirst_32 (fun v32_1 => ?_)
      refine cr_aload_n X 1 rfl dX8_bestFirst_34 ?_
      refine cr_get X ((cr_b0 E).at rfl rfl) rfl i_X8_bestFirst_X8 1 (by decide) k_X8_bestFirst_5 rfl dX8_bestFirst_35 ?_
      refine cr_aload_n X 1 rfl dX8_bestFirst_38 ?_
      refine cr_get X ((cr_b0 E).at rfl rfl) rfl i_X8_bestFirst_X8 0 (by decide) k_X8_bestFirst_1 rfl dX8_bestFirst_39 ?_
      refine cr_callV X (As := [.ref (E.2.1 0 0)]) (rest := []) (c_X2_copyFrom_S Γ.2.1 E hEK S (show 1 < 8 by decide) (show 0 < 8 by decide) (show (0 : Nat) ≠ 1 by omega)) ((cr_a0 E (show 1 < 8 by decide)).at rfl rfl) rfl 1 gX8_bestFirst_X2_copyFrom rfl rfl rfl (by decide +kernel) ⟨Nat.le_of_ble_eq_true rfl, Nat.le_of_ble_eq_true rfl⟩ (by decide) rfl rfl (Nat.le_of_ble_eq_true rfl) dX8_bestFirst_42 (fun r42_2 => ?_)
      show cr_P Γ E 6 _ 0 0 (cr_us S 1 r42_2) 45 ([(4, .int v32_1), (0, .ref (E.2.1 8 0)), (1, .int x1), (2, .int x2), (3, .int x3)]) ([]) _
      refine cr_bds (fun S42_3 => ?_)
      refine cr_aload_n X 1 rfl dX8_bestFirst_45 ?_
      refine cr_get X ((cr_b0 E).at rfl rfl) rfl i_X8_bestFirst_X8 1 (by decide) k_X8_bestFirst_5 rfl dX8_bestFirst_46 ?_
      refine cr_get X ((cr_a0 E (show 1 < 8 by decide)).at rfl rfl) rfl i_X8_bestFirst_X2 4 (by decide) k_X8_bestFirst_2 rfl dX8_bestFirst_49 ?_
      refine cr_iload X 0 rfl dX8_bestFirst_52 ?_
      refine cr_iconst X (0 : Int32) (by decide) dX8_bestFirst_54 ?_
      refine cr_callV X (As := [.int v32_1, .int ((0 : Int32))]) (rest := []) (c_X4_moveTo_S Γ.2.1 E hEK S42_3 (show 1 < 8 by decide) v32_1 ((0 : Int32))) ((cr_a8 E (show 1 < 8 by decide)).at rfl rfl) rfl 2 gX8_bestFirst_X4_moveTo rfl rfl rfl (by decide +kernel) ⟨Nat.le_of_ble_eq_true rfl, Nat.le_of_ble_eq_true rfl⟩ (by decide) rfl rfl (Nat.le_of_ble_eq_true rfl) dX8_bestFirst_55 (fun r55_4 => ?_)
      show cr_P Γ E 6 _ 0 0 (cr_us S42_3 1 r55_4) 58 ([(4, .int v32_1), (0, .ref (E.2.1 8 0)), (1, .int x1), (2, .int x2), (3, .int x3)]) ([]) _
      refine cr_bds (fun S55_5 => ?_)
      refine cr_aload_n X 1 rfl dX8_bestFirst_58 ?_
      refine cr_get X ((cr_b0 E).at rfl rfl) rfl i_X8_bestFirst_X8 1 (by decide) k_X8_bestFirst_5 rfl dX8_bestFirst_59 ?_
      refine cr_bipush X (48 : Int32) (by decide) dX8_bestFirst_62 ?_
      refine cr_callV X (As := [.int ((48 : Int32))]) (rest := []) (c_X2_runHours_S Γ.2.1 E hEK S55_5 (show 1 < 8 by decide) ((48 : Int32))) ((cr_a0 E (show 1 < 8 by decide)).at rfl rfl) rfl 1 gX8_bestFirst_X2_runHours rfl rfl rfl (by decide +kernel) ⟨Nat.le_of_ble_eq_true rfl, Nat.le_of_ble_eq_true rfl⟩ (by decide) rfl rfl (Nat.le_of_ble_eq_true rfl) dX8_bestFirst_64 (fun r64_6 => ?_)
      show cr_P Γ E 6 _ 0 0 (cr_us S55_5 1 r64_6.2) 67 ([(4, .int v32_1), (0, .ref (E.2.1 8 0)), (1, .int x1), (2, .int x2), (3, .int x3)]) ([.int r64_6.1]) _
      refine cr_bds (fun S64_7 => ?_)
      refine cr_istore X ([(5, .int r64_6.1), (4, .int v32_1), (0, .ref (E.2.1 8 0)), (1, .int x1), (2, .int x2), (3, .int x3)]) rfl (by decide) dX8_bestFirst_67 ?_
      refine cr_iload_n X 3 rfl dX8_bestFirst_69 ?_
      refine cr_iconst X (-1 : Int32) (by decide) dX8_bestFirst_70 ?_
      refine cr_icmp_eq X 80 dX8_bestFirst_71 rfl ?_ ?_
      · refine cr_iload X 1 rfl dX8_bestFirst_80 ?_
        refine cr_istore_n X ([(1, .int v32_1), (5, .int r64_6.1), (4, .int v32_1), (0, .ref (E.2.1 8 0)), (2, .int x2), (3, .int x3)]) rfl (by decide) dX8_bestFirst_82 ?_
        refine cr_iload X 1 rfl dX8_bestFirst_83 ?_
        refine cr_istore_n X ([(2, .int r64_6.1), (1, .int v32_1), (5, .int r64_6.1), (4, .int v32_1), (0, .ref (E.2.1 8 0)), (3, .int x3)]) rfl (by decide) dX8_bestFirst_85 ?_
        refine cr_iinc X (x3 + 1) (fun v86_8 => [(3, .int v86_8), (2, .int r64_6.1), (1, .int v32_1), (5, .int r64_6.1), (4, .int v32_1), (0, .ref (E.2.1 8 0))]) 5 rfl rfl (fun _ => rfl) (by decide) dX8_bestFirst_86 (fun v86_8 => ?_)
        refine cr_goto X 6 dX8_bestFirst_89 rfl ?_
        refine cr_sub (lv' := [(0, .ref (E.2.1 8 0)), (1, .int v32_1), (2, .int r64_6.1), (3, .int v86_8)]) [5, 2, 1, 0] rfl ?_
        exact ih v32_1 r64_6.1 v86_8 S64_7
      · refine cr_iload X 0 rfl dX8_bestFirst_74 ?_
        refine cr_iload_n X 4 rfl dX8_bestFirst_76 ?_
        refine cr_icmp_ge X 86 dX8_bestFirst_77 rfl ?_ ?_
        · refine cr_iinc X (x3 + 1) (fun v86_9 => [(3, .int v86_9), (5, .int r64_6.1), (4, .int v32_1), (0, .ref (E.2.1 8 0)), (1, .int x1), (2, .int x2)]) 5 rfl rfl (fun _ => rfl) (by decide) dX8_bestFirst_86 (fun v86_9 => ?_)
          refine cr_goto X 6 dX8_bestFirst_89 rfl ?_
          refine cr_sub (lv' := [(0, .ref (E.2.1 8 0)), (1, .int x1), (2, .int x2), (3, .int v86_9)]) [3, 4, 5, 0] rfl ?_
          exact ih x1 x2 v86_9 S64_7
        · refine cr_iload X 1 rfl dX8_bestFirst_80 ?_
          refine cr_istore_n X ([(1, .int v32_1), (5, .int r64_6.1), (4, .int v32_1), (0, .ref (E.2.1 8 0)), (2, .int x2), (3, .int x3)]) rfl (by decide) dX8_bestFirst_82 ?_
          refine cr_iload X 1 rfl dX8_bestFirst_83 ?_
          refine cr_istore_n X ([(2, .int r64_6.1), (1, .int v32_1), (5, .int r64_6.1), (4, .int v32_1), (0, .ref (E.2.1 8 0)), (3, .int x3)]) rfl (by decide) dX8_bestFirst_85 ?_
          refine cr_iinc X (x3 + 1) (fun v86_10 => [(3, .int v86_10), (2, .int r64_6.1), (1, .int v32_1), (5, .int r64_6.1), (4, .int v32_1), (0, .ref (E.2.1 8 0))]) 5 rfl rfl (fun _ => rfl) (by decide) dX8_bestFirst_86 (fun v86_10 => ?_)
          refine cr_goto X 6 dX8_bestFirst_89 rfl ?_
          refine cr_sub (lv' := [(0, .ref (E.2.1 8 0)), (1, .int v32_1), (2, .int r64_6.1), (3, .int v86_10)]) [5, 2, 1, 0] rfl ?_
          exact ih v32_1 r64_6.1 v86_10 S64_7
set_option maxHeartbeats 4000000 in
set_option maxRecDepth 100000 in
theorem c_X8_bestFirst (l : Launch) (E : cr_E) (hEK : cr_EK E) (S : cr_S) : cr_M l E yX8_bestFirst wsX8_bestFirst rm_X8_bestFirst [.ref (E.2.1 8 0)] S cr_vIS (s_X8_bestFirst S) := by
  refine cr_enter (cc := cX8_bestFirst) (nL := 6) (rt := (some .int)) hEK (by decide) rfl (Nat.le_of_ble_eq_true rfl) (fun Γ hΓ X => ?_)
  subst hΓ
  have X : cr_X Γ E cX8_bestFirst 6 RX8 wsX8_bestFirst rm_X8_bestFirst (some .int) := X
  unfold s_X8_bestFirst
  show cr_P Γ E 6 _ 0 0 S 0 ([(0, .ref (E.2.1 8 0))]) [] _
  refine cr_iconst X (-1 : Int32) (by decide) dX8_bestFirst_0 ?_
  refine cr_istore_n X ([(1, .int ((-1 : Int32))), (0, .ref (E.2.1 8 0))]) rfl (by decide) dX8_bestFirst_1 ?_
  refine cr_iconst X (0 : Int32) (by decide) dX8_bestFirst_2 ?_
  refine cr_istore_n X ([(2, .int ((0 : Int32))), (1, .int ((-1 : Int32))), (0, .ref (E.2.1 8 0))]) rfl (by decide) dX8_bestFirst_3 ?_
  refine cr_iconst X (0 : Int32) (by decide) dX8_bestFirst_4 ?_
  refine cr_istore_n X ([(3, .int ((0 : Int32))), (2, .int ((0 : Int32))), (1, .int ((-1 : Int32))), (0, .ref (E.2.1 8 0))]) rfl (by decide) dX8_bestFirst_5 ?_
  refine cr_sub (lv' := [(0, .ref (E.2.1 8 0)), (1, .int ((-1 : Int32))), (2, .int ((0 : Int32))), (3, .int ((0 : Int32)))]) [3, 2, 1, 0] rfl ?_
  exact b_X8_bestFirst_6 X 1200 ((-1 : Int32)) ((0 : Int32)) ((0 : Int32)) S
theorem k_X8_blade_5 : (Cond.fieldLink RX8 10 "CraneCampaign" "farm" "LCraneCampaign$Farm;") ∈ wsX8_blade := List.mem_of_getElem? (i := 5) (by rfl)
theorem k_X8_blade_6 : (Cond.fieldLink RX8 151 "CraneCampaign$Farm" "harbour" "LCraneCampaign$Harbour;") ∈ wsX8_blade := List.mem_of_getElem? (i := 6) (by rfl)
theorem k_X8_blade_7 : (Cond.fieldLink RX8 167 "CraneCampaign$Harbour" "count" "I") ∈ wsX8_blade := List.mem_of_getElem? (i := 7) (by rfl)
theorem k_X8_blade_8 : (Cond.fieldLink RX8 229 "CraneCampaign$Harbour" "turbine" "[I") ∈ wsX8_blade := List.mem_of_getElem? (i := 8) (by rfl)
theorem k_X8_blade_9 : (Cond.fieldLink RX8 232 "CraneCampaign$Harbour" "weight" "[I") ∈ wsX8_blade := List.mem_of_getElem? (i := 9) (by rfl)
theorem i_X8_blade_X2 : ∀ w ∈ wsX20, w ∈ wsX8_blade := by decide +kernel
theorem i_X8_blade_X3 : ∀ w ∈ wsX30, w ∈ wsX8_blade := by decide +kernel
theorem i_X8_blade_X8 : ∀ w ∈ wsX80, w ∈ wsX8_blade := by decide +kernel
abbrev rm_X8_blade : Room := { frames := 1, cells := 0, slots := 0, locals := 22 }
set_option maxHeartbeats 4000000 in
set_option maxRecDepth 100000 in
theorem c_X8_blade (l : Launch) (E : cr_E) (hEK : cr_EK E) (S : cr_S) (p1 : Int32) (p2 : Int32) : cr_M l E yX8_blade wsX8_blade rm_X8_blade [.ref (E.2.1 8 0), .int p1, .int p2] S (cr_vI S) (t_X8_blade S p1 p2) := by
  refine cr_enter (cc := cX8_blade) (nL := 3) (rt := (some .int)) hEK (by decide) rfl (Nat.le_of_ble_eq_true rfl) (fun Γ hΓ X => ?_)
  subst hΓ
  have X : cr_X Γ E cX8_blade 3 RX8 wsX8_blade rm_X8_blade (some .int) := X
  unfold t_X8_blade
  show cr_P Γ E 3 _ 0 0 S 0 ([(0, .ref (E.2.1 8 0)), (1, .int p1), (2, .int p2)]) [] _
  refine cr_iload_n X 1 rfl dX8_blade_0 ?_
  refine cr_iconst X (0 : Int32) (by decide) dX8_blade_1 ?_
  refine cr_aload_n X 0 rfl dX8_blade_2 ?_
  refine cr_get X ((cr_b0 E).at rfl rfl) rfl i_X8_blade_X8 0 (by decide) k_X8_blade_5 rfl dX8_blade_3 ?_
  refine cr_get X ((cr_a0 E (show 0 < 8 by decide)).at rfl rfl) rfl i_X8_blade_X2 3 (by decide) k_X8_blade_6 rfl dX8_blade_6 ?_
  refine cr_get X ((cr_a5 E (show 0 < 8 by decide)).at rfl rfl) rfl i_X8_blade_X3 2 (by decide) k_X8_blade_7 rfl dX8_blade_9 ?_
  refine cr_iconst X (1 : Int32) (by decide) dX8_blade_12 ?_
  refine cr_isub X dX8_blade_13 ?_
  refine cr_callS X (As := [.int p1, .int ((0 : Int32)), .int ((((S.1 0 5) 2) - (1 : Int32)))]) (rest := []) (c_X8_isWithin Γ.2.1 E hEK S p1 ((0 : Int32)) ((((S.1 0 5) 2) - (1 : Int32)))) 3 gX8_blade_X8_isWithin rfl rfl rfl (by decide +kernel) ⟨Nat.le_of_ble_eq_true rfl, Nat.le_of_ble_eq_true rfl⟩ (by decide) rfl rfl (Nat.le_of_ble_eq_true rfl) dX8_blade_14 (fun r14_1 => ?_)
  show cr_P Γ E 3 _ 0 0 S 17 ([(0, .ref (E.2.1 8 0)), (1, .int p1), (2, .int p2)]) ([.int (cr_b r14_1)]) _
  refine cr_ifb_ne X 30 dX8_blade_17 rfl ?_ ?_
  · refine cr_iload_n X 2 rfl dX8_blade_30 ?_
    refine cr_iconst X (0 : Int32) (by decide) dX8_blade_31 ?_
    refine cr_iconst X (1 : Int32) (by decide) dX8_blade_32 ?_
    refine cr_callS X (As := [.int p2, .int ((0 : Int32)), .int ((1 : Int32))]) (rest := []) (c_X8_isWithin Γ.2.1 E hEK S p2 ((0 : Int32)) ((1 : Int32))) 3 gX8_blade_X8_isWithin rfl rfl rfl (by decide +kernel) ⟨Nat.le_of_ble_eq_true rfl, Nat.le_of_ble_eq_true rfl⟩ (by decide) rfl rfl (Nat.le_of_ble_eq_true rfl) dX8_blade_33 (fun r33_2 => ?_)
    show cr_P Γ E 3 _ 0 0 S 36 ([(0, .ref (E.2.1 8 0)), (1, .int p1), (2, .int p2)]) ([.int (cr_b r33_2)]) _
    refine cr_ifb_ne X 49 dX8_blade_36 rfl ?_ ?_
    · refine cr_iload_n X 2 rfl dX8_blade_49 ?_
      refine cr_if_ne X 68 dX8_blade_50 rfl ?_ ?_
      · refine cr_aload_n X 0 rfl dX8_blade_68 ?_
        refine cr_get X ((cr_b0 E).at rfl rfl) rfl i_X8_blade_X8 0 (by decide) k_X8_blade_5 rfl dX8_blade_69 ?_
        refine cr_get X ((cr_a0 E (show 0 < 8 by decide)).at rfl rfl) rfl i_X8_blade_X2 3 (by decide) k_X8_blade_6 rfl dX8_blade_72 ?_
        refine cr_get X ((cr_a5 E (show 0 < 8 by decide)).at rfl rfl) rfl i_X8_blade_X3 1 (by decide) k_X8_blade_9 rfl dX8_blade_75 ?_
        refine cr_iload_n X 1 rfl dX8_blade_78 ?_
        refine cr_iald X ((cr_a7 E (show 0 < 8 by decide)).at rfl rfl) dX8_blade_79 ?_
        exact cr_iret X rfl rfl dX8_blade_80
      · refine cr_aload_n X 0 rfl dX8_blade_53 ?_
        refine cr_get X ((cr_b0 E).at rfl rfl) rfl i_X8_blade_X8 0 (by decide) k_X8_blade_5 rfl dX8_blade_54 ?_
        refine cr_get X ((cr_a0 E (show 0 < 8 by decide)).at rfl rfl) rfl i_X8_blade_X2 3 (by decide) k_X8_blade_6 rfl dX8_blade_57 ?_
        refine cr_get X ((cr_a5 E (show 0 < 8 by decide)).at rfl rfl) rfl i_X8_blade_X3 0 (by decide) k_X8_blade_8 rfl dX8_blade_60 ?_
        refine cr_iload_n X 1 rfl dX8_blade_63 ?_
        refine cr_iald X ((cr_a6 E (show 0 < 8 by decide)).at rfl rfl) dX8_blade_64 ?_
        refine cr_goto X 80 dX8_blade_65 rfl ?_
        exact cr_iret X rfl rfl dX8_blade_80
    · exact cr_none
  · exact cr_none
theorem k_X8_bog_5 : (Cond.fieldLink RX8 10 "CraneCampaign" "farm" "LCraneCampaign$Farm;") ∈ wsX8_bog := List.mem_of_getElem? (i := 5) (by rfl)
theorem k_X8_bog_6 : (Cond.fieldLink RX8 87 "CraneCampaign$Farm" "bogs" "LCraneCampaign$Bogs;") ∈ wsX8_bog := List.mem_of_getElem? (i := 6) (by rfl)
theorem k_X8_bog_7 : (Cond.fieldLink RX8 107 "CraneCampaign$Bogs" "count" "I") ∈ wsX8_bog := List.mem_of_getElem? (i := 7) (by rfl)
theorem k_X8_bog_8 : (Cond.fieldLink RX8 237 "CraneCampaign$Bogs" "place" "[I") ∈ wsX8_bog := List.mem_of_getElem? (i := 8) (by rfl)
theorem k_X8_bog_9 : (Cond.fieldLink RX8 240 "CraneCampaign$Bogs" "need" "[I") ∈ wsX8_bog := List.mem_of_getElem? (i := 9) (by rfl)
theorem i_X8_bog_X0 : ∀ w ∈ wsX00, w ∈ wsX8_bog := by decide +kernel
theorem i_X8_bog_X2 : ∀ w ∈ wsX20, w ∈ wsX8_bog := by decide +kernel
theorem i_X8_bog_X8 : ∀ w ∈ wsX80, w ∈ wsX8_bog := by decide +kernel
abbrev rm_X8_bog : Room := { frames := 1, cells := 0, slots := 0, locals := 22 }
set_option maxHeartbeats 4000000 in
set_option maxRecDepth 100000 in
theorem c_X8_bog (l : Launch) (E : cr_E) (hEK : cr_EK E) (S : cr_S) (p1 : Int32) (p2 : Int32) : cr_M l E yX8_bog wsX8_bog rm_X8_bog [.ref (E.2.1 8 0), .int p1, .int p2] S (cr_vI S) (t_X8_bog S p1 p2) := by
  refine cr_enter (cc := cX8_bog) (nL := 3) (rt := (some .int)) hEK (by decide) rfl (Nat.le_of_ble_eq_true rfl) (fun Γ hΓ X => ?_)
  subst hΓ
  have X : cr_X Γ E cX8_bog 3 RX8 wsX8_bog rm_X8_bog (some .int) := X
  unfold t_X8_bog
  show cr_P Γ E 3 _ 0 0 S 0 ([(0, .ref (E.2.1 8 0)), (1, .int p1), (2, .int p2)]) [] _
  refine cr_iload_n X 1 rfl dX8_bog_0 ?_
  refine cr_iconst X (0 : Int32) (by decide) dX8_bog_1 ?_
  refine cr_aload_n X 0 rfl dX8_bog_2 ?_
  refine cr_get X ((cr_b0 E).at rfl rfl) rfl i_X8_bog_X8 0 (by decide) k_X8_bog_5 rfl dX8_bog_3 ?_
  refine cr_get X ((cr_a0 E (show 0 < 8 by decide)).at rfl rfl) rfl i_X8_bog_X2 2 (by decide) k_X8_bog_6 rfl dX8_bog_6 ?_
  refine cr_get X ((cr_a2 E (show 0 < 8 by decide)).at rfl rfl) rfl i_X8_bog_X0 2 (by decide) k_X8_bog_7 rfl dX8_bog_9 ?_
  refine cr_iconst X (1 : Int32) (by decide) dX8_bog_12 ?_
  refine cr_isub X dX8_bog_13 ?_
  refine cr_callS X (As := [.int p1, .int ((0 : Int32)), .int ((((S.1 0 2) 2) - (1 : Int32)))]) (rest := []) (c_X8_isWithin Γ.2.1 E hEK S p1 ((0 : Int32)) ((((S.1 0 2) 2) - (1 : Int32)))) 3 gX8_bog_X8_isWithin rfl rfl rfl (by decide +kernel) ⟨Nat.le_of_ble_eq_true rfl, Nat.le_of_ble_eq_true rfl⟩ (by decide) rfl rfl (Nat.le_of_ble_eq_true rfl) dX8_bog_14 (fun r14_1 => ?_)
  show cr_P Γ E 3 _ 0 0 S 17 ([(0, .ref (E.2.1 8 0)), (1, .int p1), (2, .int p2)]) ([.int (cr_b r14_1)]) _
  refine cr_ifb_ne X 30 dX8_bog_17 rfl ?_ ?_
  · refine cr_iload_n X 2 rfl dX8_bog_30 ?_
    refine cr_iconst X (0 : Int32) (by decide) dX8_bog_31 ?_
    refine cr_iconst X (1 : Int32) (by decide) dX8_bog_32 ?_
    refine cr_callS X (As := [.int p2, .int ((0 : Int32)), .int ((1 : Int32))]) (rest := []) (c_X8_isWithin Γ.2.1 E hEK S p2 ((0 : Int32)) ((1 : Int32))) 3 gX8_bog_X8_isWithin rfl rfl rfl (by decide +kernel) ⟨Nat.le_of_ble_eq_true rfl, Nat.le_of_ble_eq_true rfl⟩ (by decide) rfl rfl (Nat.le_of_ble_eq_true rfl) dX8_bog_33 (fun r33_2 => ?_)
    show cr_P Γ E 3 _ 0 0 S 36 ([(0, .ref (E.2.1 8 0)), (1, .int p1), (2, .int p2)]) ([.int (cr_b r33_2)]) _
    refine cr_ifb_ne X 49 dX8_bog_36 rfl ?_ ?_
    · refine cr_iload_n X 2 rfl dX8_bog_49 ?_
      refine cr_if_ne X 68 dX8_bog_50 rfl ?_ ?_
      · refine cr_aload_n X 0 rfl dX8_bog_68 ?_
        refine cr_get X ((cr_b0 E).at rfl rfl) rfl i_X8_bog_X8 0 (by decide) k_X8_bog_5 rfl dX8_bog_69 ?_
        refine cr_get X ((cr_a0 E (show 0 < 8 by decide)).at rfl rfl) rfl i_X8_bog_X2 2 (by decide) k_X8_bog_6 rfl dX8_bog_72 ?_
        refine cr_get X ((cr_a2 E (show 0 < 8 by decide)).at rfl rfl) rfl i_X8_bog_X0 1 (by decide) k_X8_bog_9 rfl dX8_bog_75 ?_
        refine cr_iload_n X 1 rfl dX8_bog_78 ?_
        refine cr_iald X ((cr_a4 E (show 0 < 8 by decide)).at rfl rfl) dX8_bog_79 ?_
        exact cr_iret X rfl rfl dX8_bog_80
      · refine cr_aload_n X 0 rfl dX8_bog_53 ?_
        refine cr_get X ((cr_b0 E).at rfl rfl) rfl i_X8_bog_X8 0 (by decide) k_X8_bog_5 rfl dX8_bog_54 ?_
        refine cr_get X ((cr_a0 E (show 0 < 8 by decide)).at rfl rfl) rfl i_X8_bog_X2 2 (by decide) k_X8_bog_6 rfl dX8_bog_57 ?_
        refine cr_get X ((cr_a2 E (show 0 < 8 by decide)).at rfl rfl) rfl i_X8_bog_X0 0 (by decide) k_X8_bog_8 rfl dX8_bog_60 ?_
        refine cr_iload_n X 1 rfl dX8_bog_63 ?_
        refine cr_iald X ((cr_a3 E (show 0 < 8 by decide)).at rfl rfl) dX8_bog_64 ?_
        refine cr_goto X 80 dX8_bog_65 rfl ?_
        exact cr_iret X rfl rfl dX8_bog_80
    · exact cr_none
  · exact cr_none
theorem k_X8_claims_3 : (Cond.fieldLink RX8 10 "CraneCampaign" "farm" "LCraneCampaign$Farm;") ∈ wsX8_claims := List.mem_of_getElem? (i := 3) (by rfl)
theorem k_X8_claims_4 : (Cond.fieldLink RX8 245 "CraneCampaign$Farm" "lostBy" "[I") ∈ wsX8_claims := List.mem_of_getElem? (i := 4) (by rfl)
theorem i_X8_claims_X2 : ∀ w ∈ wsX20, w ∈ wsX8_claims := by decide +kernel
theorem i_X8_claims_X8 : ∀ w ∈ wsX80, w ∈ wsX8_claims := by decide +kernel
abbrev rm_X8_claims : Room := { frames := 1, cells := 0, slots := 0, locals := 22 }
set_option maxHeartbeats 4000000 in
set_option maxRecDepth 100000 in
theorem c_X8_claims (l : Launch) (E : cr_E) (hEK : cr_EK E) (S : cr_S) (p1 : Int32) : cr_M l E yX8_claims wsX8_claims rm_X8_claims [.ref (E.2.1 8 0), .int p1] S (cr_vI S) (t_X8_claims S p1) := by
  refine cr_enter (cc := cX8_claims) (nL := 2) (rt := (some .int)) hEK (by decide) rfl (Nat.le_of_ble_eq_true rfl) (fun Γ hΓ X => ?_)
  subst hΓ
  have X : cr_X Γ E cX8_claims 2 RX8 wsX8_claims rm_X8_claims (some .int) := X
  unfold t_X8_claims
  show cr_P Γ E 2 _ 0 0 S 0 ([(0, .ref (E.2.1 8 0)), (1, .int p1)]) [] _
  refine cr_iload_n X 1 rfl dX8_claims_0 ?_
  refine cr_iconst X (0 : Int32) (by decide) dX8_claims_1 ?_
  refine cr_iconst X (4 : Int32) (by decide) dX8_claims_2 ?_
  refine cr_callS X (As := [.int p1, .int ((0 : Int32)), .int ((4 : Int32))]) (rest := []) (c_X8_isWithin Γ.2.1 E hEK S p1 ((0 : Int32)) ((4 : Int32))) 3 gX8_claims_X8_isWithin rfl rfl rfl (by decide +kernel) ⟨Nat.le_of_ble_eq_true rfl, Nat.le_of_ble_eq_true rfl⟩ (by decide) rfl rfl (Nat.le_of_ble_eq_true rfl) dX8_claims_3 (fun r3_1 => ?_)
  show cr_P Γ E 2 _ 0 0 S 6 ([(0, .ref (E.2.1 8 0)), (1, .int p1)]) ([.int (cr_b r3_1)]) _
  refine cr_ifb_ne X 19 dX8_claims_6 rfl ?_ ?_
  · refine cr_aload_n X 0 rfl dX8_claims_19 ?_
    refine cr_get X ((cr_b0 E).at rfl rfl) rfl i_X8_claims_X8 0 (by decide) k_X8_claims_3 rfl dX8_claims_20 ?_
    refine cr_get X ((cr_a0 E (show 0 < 8 by decide)).at rfl rfl) rfl i_X8_claims_X2 8 (by decide) k_X8_claims_4 rfl dX8_claims_23 ?_
    refine cr_iload_n X 1 rfl dX8_claims_26 ?_
    refine cr_iald X ((cr_a14 E (show 0 < 8 by decide)).at rfl rfl) dX8_claims_27 ?_
    exact cr_iret X rfl rfl dX8_claims_28
  · exact cr_none
theorem k_X8_numberOf_1 : (Cond.fieldLink RX8 10 "CraneCampaign" "farm" "LCraneCampaign$Farm;") ∈ wsX8_numberOf := List.mem_of_getElem? (i := 1) (by rfl)
theorem k_X8_numberOf_2 : (Cond.fieldLink RX8 326 "CraneCampaign$Farm" "crane" "LCraneCampaign$Crane;") ∈ wsX8_numberOf := List.mem_of_getElem? (i := 2) (by rfl)
theorem k_X8_numberOf_3 : (Cond.fieldLink RX8 48 "CraneCampaign$Farm" "turbineCount" "I") ∈ wsX8_numberOf := List.mem_of_getElem? (i := 3) (by rfl)
theorem k_X8_numberOf_4 : (Cond.fieldLink RX8 170 "CraneCampaign$Farm" "hour" "I") ∈ wsX8_numberOf := List.mem_of_getElem? (i := 4) (by rfl)
theorem k_X8_numberOf_5 : (Cond.fieldLink RX8 202 "CraneCampaign$Farm" "winds" "LCraneCampaign$Winds;") ∈ wsX8_numberOf := List.mem_of_getElem? (i := 5) (by rfl)
theorem k_X8_numberOf_6 : (Cond.fieldLink RX8 210 "CraneCampaign$Winds" "count" "I") ∈ wsX8_numberOf := List.mem_of_getElem? (i := 6) (by rfl)
theorem k_X8_numberOf_7 : (Cond.fieldLink RX8 125 "CraneCampaign$Farm" "plan" "LCraneCampaign$Plan;") ∈ wsX8_numberOf := List.mem_of_getElem? (i := 7) (by rfl)
theorem k_X8_numberOf_8 : (Cond.fieldLink RX8 142 "CraneCampaign$Plan" "count" "I") ∈ wsX8_numberOf := List.mem_of_getElem? (i := 8) (by rfl)
theorem k_X8_numberOf_9 : (Cond.fieldLink RX8 339 "CraneCampaign$Crane" "place" "I") ∈ wsX8_numberOf := List.mem_of_getElem? (i := 9) (by rfl)
theorem k_X8_numberOf_10 : (Cond.fieldLink RX8 343 "CraneCampaign$Crane" "hoursLeft" "I") ∈ wsX8_numberOf := List.mem_of_getElem? (i := 10) (by rfl)
theorem k_X8_numberOf_11 : (Cond.fieldLink RX8 346 "CraneCampaign$Crane" "goal" "I") ∈ wsX8_numberOf := List.mem_of_getElem? (i := 11) (by rfl)
theorem k_X8_numberOf_12 : (Cond.fieldLink RX8 151 "CraneCampaign$Farm" "harbour" "LCraneCampaign$Harbour;") ∈ wsX8_numberOf := List.mem_of_getElem? (i := 12) (by rfl)
theorem k_X8_numberOf_13 : (Cond.fieldLink RX8 167 "CraneCampaign$Harbour" "count" "I") ∈ wsX8_numberOf := List.mem_of_getElem? (i := 13) (by rfl)
theorem k_X8_numberOf_14 : (Cond.fieldLink RX8 27 "CraneCampaign" "savedCount" "I") ∈ wsX8_numberOf := List.mem_of_getElem? (i := 14) (by rfl)
theorem i_X8_numberOf_X1 : ∀ w ∈ wsX10, w ∈ wsX8_numberOf := by decide +kernel
theorem i_X8_numberOf_X2 : ∀ w ∈ wsX20, w ∈ wsX8_numberOf := by decide +kernel
theorem i_X8_numberOf_X3 : ∀ w ∈ wsX30, w ∈ wsX8_numberOf := by decide +kernel
theorem i_X8_numberOf_X4 : ∀ w ∈ wsX40, w ∈ wsX8_numberOf := by decide +kernel
theorem i_X8_numberOf_X7 : ∀ w ∈ wsX70, w ∈ wsX8_numberOf := by decide +kernel
theorem i_X8_numberOf_X8 : ∀ w ∈ wsX80, w ∈ wsX8_numberOf := by decide +kernel
abbrev rm_X8_numberOf : Room := { frames := 2, cells := 0, slots := 0, locals := 41 }
set_option maxHeartbeats 4000000 in
set_option maxRecDepth 100000 in
theorem c_X8_numberOf (l : Launch) (E : cr_E) (hEK : cr_EK E) (S : cr_S) (p1 : Int32) : cr_M l E yX8_numberOf wsX8_numberOf rm_X8_numberOf [.ref (E.2.1 8 0), .int p1] S (cr_vI S) (s_X8_numberOf S p1) := by
  refine cr_enter (cc := cX8_numberOf) (nL := 3) (rt := (some .int)) hEK (by decide) rfl (Nat.le_of_ble_eq_true rfl) (fun Γ hΓ X => ?_)
  subst hΓ
  have X : cr_X Γ E cX8_numberOf 3 RX8 wsX8_numberOf rm_X8_numberOf (some .int) := X
  unfold s_X8_numberOf
  show cr_P Γ E 3 _ 0 0 S 0 ([(0, .ref (E.2.1 8 0)), (1, .int p1)]) [] _
  refine cr_aload_n X 0 rfl dX8_numberOf_0 ?_
  refine cr_get X ((cr_b0 E).at rfl rfl) rfl i_X8_numberOf_X8 0 (by decide) k_X8_numberOf_1 rfl dX8_numberOf_1 ?_
  refine cr_get X ((cr_a0 E (show 0 < 8 by decide)).at rfl rfl) rfl i_X8_numberOf_X2 5 (by decide) k_X8_numberOf_2 rfl dX8_numberOf_4 ?_
  refine cr_astore_n X ([(2, .ref (E.2.1 0 10)), (0, .ref (E.2.1 8 0)), (1, .int p1)]) rfl (by decide) dX8_numberOf_7 ?_
  refine cr_iload_n X 2 rfl dX8_numberOf_8 ?_
  refine cr_ite (fun h9_0 => ?_) (fun n9_0 => ?_)
  · refine cr_tin X 0 80 h9_0 dX8_numberOf_9 (by decide) rfl rfl ?_
    refine cr_aload_n X 1 rfl dX8_numberOf_80 ?_
    refine cr_get X ((cr_b0 E).at rfl rfl) rfl i_X8_numberOf_X8 0 (by decide) k_X8_numberOf_1 rfl dX8_numberOf_81 ?_
    refine cr_get X ((cr_a0 E (show 0 < 8 by decide)).at rfl rfl) rfl i_X8_numberOf_X2 1 (by decide) k_X8_numberOf_3 rfl dX8_numberOf_84 ?_
    exact cr_iret X rfl rfl dX8_numberOf_87
  · refine cr_ite (fun h9_1 => ?_) (fun n9_1 => ?_)
    · refine cr_tin X 1 88 h9_1 dX8_numberOf_9 (by decide) rfl rfl ?_
      refine cr_aload_n X 1 rfl dX8_numberOf_88 ?_
      refine cr_get X ((cr_b0 E).at rfl rfl) rfl i_X8_numberOf_X8 0 (by decide) k_X8_numberOf_1 rfl dX8_numberOf_89 ?_
      refine cr_callV X (As := []) (rest := []) (c_X2_faultCount_S Γ.2.1 E hEK S (show 0 < 8 by decide)) ((cr_a0 E (show 0 < 8 by decide)).at rfl rfl) rfl 0 gX8_numberOf_X2_faultCount rfl rfl rfl (by decide +kernel) ⟨Nat.le_of_ble_eq_true rfl, Nat.le_of_ble_eq_true rfl⟩ (by decide) rfl rfl (Nat.le_of_ble_eq_true rfl) dX8_numberOf_92 (fun r92_1 => ?_)
      show cr_P Γ E 3 _ 0 0 S 95 ([(2, .ref (E.2.1 0 10)), (0, .ref (E.2.1 8 0)), (1, .int p1)]) ([.int r92_1]) _
      exact cr_iret X rfl rfl dX8_numberOf_95
    · refine cr_ite (fun h9_2 => ?_) (fun n9_2 => ?_)
      · refine cr_tin X 2 96 h9_2 dX8_numberOf_9 (by decide) rfl rfl ?_
        refine cr_aload_n X 1 rfl dX8_numberOf_96 ?_
        refine cr_get X ((cr_b0 E).at rfl rfl) rfl i_X8_numberOf_X8 0 (by decide) k_X8_numberOf_1 rfl dX8_numberOf_97 ?_
        refine cr_get X ((cr_a0 E (show 0 < 8 by decide)).at rfl rfl) rfl i_X8_numberOf_X2 9 (by decide) k_X8_numberOf_4 rfl dX8_numberOf_100 ?_
        exact cr_iret X rfl rfl dX8_numberOf_103
      · refine cr_ite (fun h9_3 => ?_) (fun n9_3 => ?_)
        · refine cr_tin X 3 104 h9_3 dX8_numberOf_9 (by decide) rfl rfl ?_
          refine cr_aload_n X 1 rfl dX8_numberOf_104 ?_
          refine cr_get X ((cr_b0 E).at rfl rfl) rfl i_X8_numberOf_X8 0 (by decide) k_X8_numberOf_1 rfl dX8_numberOf_105 ?_
          refine cr_callV X (As := []) (rest := []) (c_X2_windNow_S Γ.2.1 E hEK S (show 0 < 8 by decide)) ((cr_a0 E (show 0 < 8 by decide)).at rfl rfl) rfl 0 gX8_numberOf_X2_windNow rfl rfl rfl (by decide +kernel) ⟨Nat.le_of_ble_eq_true rfl, Nat.le_of_ble_eq_true rfl⟩ (by decide) rfl rfl (Nat.le_of_ble_eq_true rfl) dX8_numberOf_108 (fun r108_2 => ?_)
          show cr_P Γ E 3 _ 0 0 S 111 ([(2, .ref (E.2.1 0 10)), (0, .ref (E.2.1 8 0)), (1, .int p1)]) ([.int r108_2]) _
          exact cr_iret X rfl rfl dX8_numberOf_111
        · refine cr_ite (fun h9_4 => ?_) (fun n9_4 => ?_)
          · refine cr_tin X 4 112 h9_4 dX8_numberOf_9 (by decide) rfl rfl ?_
            refine cr_aload_n X 1 rfl dX8_numberOf_112 ?_
            refine cr_get X ((cr_b0 E).at rfl rfl) rfl i_X8_numberOf_X8 0 (by decide) k_X8_numberOf_1 rfl dX8_numberOf_113 ?_
            refine cr_get X ((cr_a0 E (show 0 < 8 by decide)).at rfl rfl) rfl i_X8_numberOf_X2 6 (by decide) k_X8_numberOf_5 rfl dX8_numberOf_116 ?_
            refine cr_get X ((cr_a11 E (show 0 < 8 by decide)).at rfl rfl) rfl i_X8_numberOf_X7 1 (by decide) k_X8_numberOf_6 rfl dX8_numberOf_119 ?_
            exact cr_iret X rfl rfl dX8_numberOf_122
          · refine cr_ite (fun h9_5 => ?_) (fun n9_5 => ?_)
            · refine cr_tin X 5 123 h9_5 dX8_numberOf_9 (by decide) rfl rfl ?_
              refine cr_aload_n X 1 rfl dX8_numberOf_123 ?_
              refine cr_get X ((cr_b0 E).at rfl rfl) rfl i_X8_numberOf_X8 0 (by decide) k_X8_numberOf_1 rfl dX8_numberOf_124 ?_
              refine cr_get X ((cr_a0 E (show 0 < 8 by decide)).at rfl rfl) rfl i_X8_numberOf_X2 4 (by decide) k_X8_numberOf_7 rfl dX8_numberOf_127 ?_
              refine cr_get X ((cr_a8 E (show 0 < 8 by decide)).at rfl rfl) rfl i_X8_numberOf_X4 1 (by decide) k_X8_numberOf_8 rfl dX8_numberOf_130 ?_
              exact cr_iret X rfl rfl dX8_numberOf_133
            · refine cr_ite (fun h9_6 => ?_) (fun n9_6 => ?_)
              · refine cr_tin X 6 134 h9_6 dX8_numberOf_9 (by decide) rfl rfl ?_
                refine cr_aload_n X 1 rfl dX8_numberOf_134 ?_
                refine cr_get X ((cr_b0 E).at rfl rfl) rfl i_X8_numberOf_X8 0 (by decide) k_X8_numberOf_1 rfl dX8_numberOf_135 ?_
                refine cr_get X ((cr_a0 E (show 0 < 8 by decide)).at rfl rfl) rfl i_X8_numberOf_X2 4 (by decide) k_X8_numberOf_7 rfl dX8_numberOf_138 ?_
                refine cr_callV X (As := []) (rest := []) (c_X4_first_S Γ.2.1 E hEK S (show 0 < 8 by decide)) ((cr_a8 E (show 0 < 8 by decide)).at rfl rfl) rfl 0 gX8_numberOf_X4_first rfl rfl rfl (by decide +kernel) ⟨Nat.le_of_ble_eq_true rfl, Nat.le_of_ble_eq_true rfl⟩ (by decide) rfl rfl (Nat.le_of_ble_eq_true rfl) dX8_numberOf_141 (fun r141_3 => ?_)
                show cr_P Γ E 3 _ 0 0 S 144 ([(2, .ref (E.2.1 0 10)), (0, .ref (E.2.1 8 0)), (1, .int p1)]) ([.int r141_3]) _
                exact cr_iret X rfl rfl dX8_numberOf_144
              · refine cr_ite (fun h9_7 => ?_) (fun n9_7 => ?_)
                · refine cr_tin X 7 145 h9_7 dX8_numberOf_9 (by decide) rfl rfl ?_
                  refine cr_aload_n X 0 rfl dX8_numberOf_145 ?_
                  refine cr_get X ((cr_a10 E (show 0 < 8 by decide)).at rfl rfl) rfl i_X8_numberOf_X1 0 (by decide) k_X8_numberOf_9 rfl dX8_numberOf_146 ?_
                  exact cr_iret X rfl rfl dX8_numberOf_149
                · refine cr_ite (fun h9_8 => ?_) (fun n9_8 => ?_)
                  · refine cr_tin X 8 150 h9_8 dX8_numberOf_9 (by decide) rfl rfl ?_
                    refine cr_aload_n X 0 rfl dX8_numberOf_150 ?_
                    refine cr_get X ((cr_a10 E (show 0 < 8 by decide)).at rfl rfl) rfl i_X8_numberOf_X1 1 (by decide) k_X8_numberOf_10 rfl dX8_numberOf_151 ?_
                    exact cr_iret X rfl rfl dX8_numberOf_154
                  · refine cr_ite (fun h9_9 => ?_) (fun n9_9 => ?_)
                    · refine cr_tin X 9 155 h9_9 dX8_numberOf_9 (by decide) rfl rfl ?_
                      refine cr_aload_n X 0 rfl dX8_numberOf_155 ?_
                      refine cr_get X ((cr_a10 E (show 0 < 8 by decide)).at rfl rfl) rfl i_X8_numberOf_X1 2 (by decide) k_X8_numberOf_11 rfl dX8_numberOf_156 ?_
                      exact cr_iret X rfl rfl dX8_numberOf_159
                    · refine cr_ite (fun h9_10 => ?_) (fun n9_10 => ?_)
                      · refine cr_tin X 10 160 h9_10 dX8_numberOf_9 (by decide) rfl rfl ?_
                        refine cr_aload_n X 0 rfl dX8_numberOf_160 ?_
                        refine cr_aload_n X 1 rfl dX8_numberOf_161 ?_
                        refine cr_get X ((cr_b0 E).at rfl rfl) rfl i_X8_numberOf_X8 0 (by decide) k_X8_numberOf_1 rfl dX8_numberOf_162 ?_
                        refine cr_get X ((cr_a0 E (show 0 < 8 by decide)).at rfl rfl) rfl i_X8_numberOf_X2 4 (by decide) k_X8_numberOf_7 rfl dX8_numberOf_165 ?_
                        refine cr_callV X (As := []) (rest := [.ref (E.2.1 0 10)]) (c_X4_first_S Γ.2.1 E hEK S (show 0 < 8 by decide)) ((cr_a8 E (show 0 < 8 by decide)).at rfl rfl) rfl 0 gX8_numberOf_X4_first rfl rfl rfl (by decide +kernel) ⟨Nat.le_of_ble_eq_true rfl, Nat.le_of_ble_eq_true rfl⟩ (by decide) rfl rfl (Nat.le_of_ble_eq_true rfl) dX8_numberOf_168 (fun r168_4 => ?_)
                        show cr_P Γ E 3 _ 0 0 S 171 ([(2, .ref (E.2.1 0 10)), (0, .ref (E.2.1 8 0)), (1, .int p1)]) ([.int r168_4, .ref (E.2.1 0 10)]) _
                        refine cr_callV X (As := [.int r168_4]) (rest := []) (c_X1_workOn_S Γ.2.1 E hEK S (show 0 < 8 by decide) r168_4) ((cr_a10 E (show 0 < 8 by decide)).at rfl rfl) rfl 1 gX8_numberOf_X1_workOn rfl rfl rfl (by decide +kernel) ⟨Nat.le_of_ble_eq_true rfl, Nat.le_of_ble_eq_true rfl⟩ (by decide) rfl rfl (Nat.le_of_ble_eq_true rfl) dX8_numberOf_171 (fun r171_5 => ?_)
                        show cr_P Γ E 3 _ 0 0 S 174 ([(2, .ref (E.2.1 0 10)), (0, .ref (E.2.1 8 0)), (1, .int p1)]) ([.int r171_5]) _
                        exact cr_iret X rfl rfl dX8_numberOf_174
                      · refine cr_ite (fun h9_11 => ?_) (fun n9_11 => ?_)
                        · refine cr_tin X 11 175 h9_11 dX8_numberOf_9 (by decide) rfl rfl ?_
                          refine cr_aload_n X 1 rfl dX8_numberOf_175 ?_
                          refine cr_get X ((cr_b0 E).at rfl rfl) rfl i_X8_numberOf_X8 0 (by decide) k_X8_numberOf_1 rfl dX8_numberOf_176 ?_
                          refine cr_callV X (As := []) (rest := []) (c_X2_lostPower_S Γ.2.1 E hEK S (show 0 < 8 by decide)) ((cr_a0 E (show 0 < 8 by decide)).at rfl rfl) rfl 0 gX8_numberOf_X2_lostPower rfl rfl rfl (by decide +kernel) ⟨Nat.le_of_ble_eq_true rfl, Nat.le_of_ble_eq_true rfl⟩ (by decide) rfl rfl (Nat.le_of_ble_eq_true rfl) dX8_numberOf_179 (fun r179_6 => ?_)
                          show cr_P Γ E 3 _ 0 0 S 182 ([(2, .ref (E.2.1 0 10)), (0, .ref (E.2.1 8 0)), (1, .int p1)]) ([.int r179_6]) _
                          exact cr_iret X rfl rfl dX8_numberOf_182
                        · refine cr_ite (fun h9_12 => ?_) (fun n9_12 => ?_)
                          · refine cr_tin X 12 183 h9_12 dX8_numberOf_9 (by decide) rfl rfl ?_
                            refine cr_aload_n X 1 rfl dX8_numberOf_183 ?_
                            refine cr_get X ((cr_b0 E).at rfl rfl) rfl i_X8_numberOf_X8 0 (by decide) k_X8_numberOf_1 rfl dX8_numberOf_184 ?_
                            refine cr_callV X (As := []) (rest := []) (c_X2_wonPower_S Γ.2.1 E hEK S (show 0 < 8 by decide)) ((cr_a0 E (show 0 < 8 by decide)).at rfl rfl) rfl 0 gX8_numberOf_X2_wonPower rfl rfl rfl (by decide +kernel) ⟨Nat.le_of_ble_eq_true rfl, Nat.le_of_ble_eq_true rfl⟩ (by decide) rfl rfl (Nat.le_of_ble_eq_true rfl) dX8_numberOf_187 (fun r187_7 => ?_)
                            show cr_P Γ E 3 _ 0 0 S 190 ([(2, .ref (E.2.1 0 10)), (0, .ref (E.2.1 8 0)), (1, .int p1)]) ([.int r187_7]) _
                            exact cr_iret X rfl rfl dX8_numberOf_190
                          · refine cr_ite (fun h9_13 => ?_) (fun n9_13 => ?_)
                            · refine cr_tin X 13 191 h9_13 dX8_numberOf_9 (by decide) rfl rfl ?_
                              refine cr_aload_n X 1 rfl dX8_numberOf_191 ?_
                              refine cr_get X ((cr_b0 E).at rfl rfl) rfl i_X8_numberOf_X8 0 (by decide) k_X8_numberOf_1 rfl dX8_numberOf_192 ?_
                              refine cr_get X ((cr_a0 E (show 0 < 8 by decide)).at rfl rfl) rfl i_X8_numberOf_X2 3 (by decide) k_X8_numberOf_12 rfl dX8_numberOf_195 ?_
                              refine cr_get X ((cr_a5 E (show 0 < 8 by decide)).at rfl rfl) rfl i_X8_numberOf_X3 2 (by decide) k_X8_numberOf_13 rfl dX8_numberOf_198 ?_
                              exact cr_iret X rfl rfl dX8_numberOf_201
                            · refine cr_tout X 202 dX8_numberOf_9 (by have q0 := lv_neT (a := 0) n9_0 rfl; have q1 := lv_neT (a := 1) n9_1 rfl; have q2 := lv_neT (a := 2) n9_2 rfl; have q3 := lv_neT (a := 3) n9_3 rfl; have q4 := lv_neT (a := 4) n9_4 rfl; have q5 := lv_neT (a := 5) n9_5 rfl; have q6 := lv_neT (a := 6) n9_6 rfl; have q7 := lv_neT (a := 7) n9_7 rfl; have q8 := lv_neT (a := 8) n9_8 rfl; have q9 := lv_neT (a := 9) n9_9 rfl; have q10 := lv_neT (a := 10) n9_10 rfl; have q11 := lv_neT (a := 11) n9_11 rfl; have q12 := lv_neT (a := 12) n9_12 rfl; have q13 := lv_neT (a := 13) n9_13 rfl; omega) rfl ?_
                              refine cr_aload_n X 1 rfl dX8_numberOf_202 ?_
                              refine cr_get X ((cr_b0 E).at rfl rfl) rfl i_X8_numberOf_X8 4 (by decide) k_X8_numberOf_14 rfl dX8_numberOf_203 ?_
                              exact cr_iret X rfl rfl dX8_numberOf_206
abbrev rm_X8_count : Room := { frames := 3, cells := 0, slots := 0, locals := 63 }
set_option maxHeartbeats 4000000 in
set_option maxRecDepth 100000 in
theorem c_X8_count (l : Launch) (E : cr_E) (hEK : cr_EK E) (S : cr_S) (p1 : Int32) : cr_M l E yX8_count wsX8_count rm_X8_count [.ref (E.2.1 8 0), .int p1] S (cr_vI S) (t_X8_count S p1) := by
  refine cr_enter (cc := cX8_count) (nL := 2) (rt := (some .int)) hEK (by decide) rfl (Nat.le_of_ble_eq_true rfl) (fun Γ hΓ X => ?_)
  subst hΓ
  have X : cr_X Γ E cX8_count 2 RX8 wsX8_count rm_X8_count (some .int) := X
  unfold t_X8_count
  show cr_P Γ E 2 _ 0 0 S 0 ([(0, .ref (E.2.1 8 0)), (1, .int p1)]) [] _
  refine cr_iload_n X 1 rfl dX8_count_0 ?_
  refine cr_iconst X (0 : Int32) (by decide) dX8_count_1 ?_
  refine cr_bipush X (14 : Int32) (by decide) dX8_count_2 ?_
  refine cr_callS X (As := [.int p1, .int ((0 : Int32)), .int ((14 : Int32))]) (rest := []) (c_X8_isWithin Γ.2.1 E hEK S p1 ((0 : Int32)) ((14 : Int32))) 3 gX8_count_X8_isWithin rfl rfl rfl (by decide +kernel) ⟨Nat.le_of_ble_eq_true rfl, Nat.le_of_ble_eq_true rfl⟩ (by decide) rfl rfl (Nat.le_of_ble_eq_true rfl) dX8_count_4 (fun r4_1 => ?_)
  show cr_P Γ E 2 _ 0 0 S 7 ([(0, .ref (E.2.1 8 0)), (1, .int p1)]) ([.int (cr_b r4_1)]) _
  refine cr_ifb_ne X 20 dX8_count_7 rfl ?_ ?_
  · refine cr_aload_n X 0 rfl dX8_count_20 ?_
    refine cr_iload_n X 1 rfl dX8_count_21 ?_
    refine cr_callV X (As := [.int p1]) (rest := []) (c_X8_numberOf Γ.2.1 E hEK S p1) ((cr_b0 E).at rfl rfl) rfl 1 gX8_count_X8_numberOf rfl rfl rfl (by decide +kernel) ⟨Nat.le_of_ble_eq_true rfl, Nat.le_of_ble_eq_true rfl⟩ (by decide) rfl rfl (Nat.le_of_ble_eq_true rfl) dX8_count_22 (fun r22_2 => ?_)
    show cr_P Γ E 2 _ 0 0 S 25 ([(0, .ref (E.2.1 8 0)), (1, .int p1)]) ([.int r22_2]) _
    exact cr_iret X rfl rfl dX8_count_25
  · exact cr_none
theorem k_X8_doneIn_1 : (Cond.fieldLink RX8 16 "CraneCampaign" "trial" "LCraneCampaign$Farm;") ∈ wsX8_doneIn := List.mem_of_getElem? (i := 1) (by rfl)
theorem k_X8_doneIn_2 : (Cond.fieldLink RX8 10 "CraneCampaign" "farm" "LCraneCampaign$Farm;") ∈ wsX8_doneIn := List.mem_of_getElem? (i := 2) (by rfl)
theorem k_X8_doneIn_3 : (Cond.fieldLink RX8 125 "CraneCampaign$Farm" "plan" "LCraneCampaign$Plan;") ∈ wsX8_doneIn := List.mem_of_getElem? (i := 3) (by rfl)
theorem k_X8_doneIn_4 : (Cond.fieldLink RX8 142 "CraneCampaign$Plan" "count" "I") ∈ wsX8_doneIn := List.mem_of_getElem? (i := 4) (by rfl)
theorem i_X8_doneIn_X2 : ∀ w ∈ wsX20, w ∈ wsX8_doneIn := by decide +kernel
theorem i_X8_doneIn_X4 : ∀ w ∈ wsX40, w ∈ wsX8_doneIn := by decide +kernel
theorem i_X8_doneIn_X8 : ∀ w ∈ wsX80, w ∈ wsX8_doneIn := by decide +kernel
abbrev rm_X8_doneIn : Room := { frames := 4, cells := 0, slots := 0, locals := 96 }
set_option maxHeartbeats 4000000 in
set_option maxRecDepth 100000 in
theorem b_X8_doneIn_13 {Γ : cr_C} {E : cr_E} (X : cr_X Γ E cX8_doneIn 2 RX8 wsX8_doneIn rm_X8_doneIn (some .int)) : ∀ (n : Nat) (x1 : Int32) (S : cr_S), cr_P Γ E 2 (cr_F Γ E cr_vIS) 0 0 S 13 ([(0, .ref (E.2.1 8 0)), (1, .int x1)]) ([]) (s_X8_doneIn_13 n x1 S) := by
  have hEK := X.2.2.2.2.2.2.1
  intro n
  induction n with
  | zero => intro x1 S; exact cr_none
  | succ n ih =>
    intro x1 S
    rw [s_X8_doneIn_13]
    refine cr_iload_n X 1 rfl dX8_doneIn_13 ?_
    refine cr_sipush X (500 : Int32) (by decide) dX8_doneIn_14 ?_
    refine cr_icmp_gt X 49 dX8_doneIn_17 rfl ?_ ?_
    · refine cr_iconst X (-1 : Int32) (by decide) dX8_doneIn_49 ?_
      exact cr_iret X rfl rfl dX8_doneIn_50
    · refine cr_aload_n X 0 rfl dX8_doneIn_20 ?_
      refine cr_get X ((cr_b0 E).at rfl rfl) rfl i_X8_doneIn_X8 1 (by decide) k_X8_doneIn_1 rfl dX8_doneIn_21 ?_
      refine cr_get X ((cr_a0 E (show 1 < 8 by decide)).at rfl rfl) rfl i_X8_doneIn_X2 4 (by decide) k_X8_doneIn_3 rfl dX8_doneIn_24 ?_
      refine cr_get X ((cr_a8 E (show 1 < 8 by decide)).at rfl rfl) rfl i_X8_doneIn_X4 1 (by decide) k_X8_doneIn_4 rfl dX8_doneIn_27 ?_
      refine cr_if_ne X 35 dX8_doneIn_30 rfl ?_ ?_
      · refine cr_aload_n X 0 rfl dX8_doneIn_35 ?_
        refine cr_get X ((cr_b0 E).at rfl rfl) rfl i_X8_doneIn_X8 1 (by decide) k_X8_doneIn_1 rfl dX8_doneIn_36 ?_
        refine cr_callV X (As := []) (rest := []) (c_X2_runHour_S Γ.2.1 E hEK S (show 1 < 8 by decide)) ((cr_a0 E (show 1 < 8 by decide)).at rfl rfl) rfl 0 gX8_doneIn_X2_runHour rfl rfl rfl (by decide +kernel) ⟨Nat.le_of_ble_eq_true rfl, Nat.le_of_ble_eq_true rfl⟩ (by decide) rfl rfl (Nat.le_of_ble_eq_true rfl) dX8_doneIn_39 (fun r39_3 => ?_)
        show cr_P Γ E 2 _ 0 0 (cr_us S 1 r39_3.2) 42 ([(0, .ref (E.2.1 8 0)), (1, .int x1)]) ([.int r39_3.1]) _
        refine cr_bds (fun S39_4 => ?_)
        refine cr_pop X rfl dX8_doneIn_42 ?_
        refine cr_iinc X (x1 + 1) (fun v43_5 => [(1, .int v43_5), (0, .ref (E.2.1 8 0))]) 1 rfl rfl (fun _ => rfl) (by decide) dX8_doneIn_43 (fun v43_5 => ?_)
        refine cr_goto X 13 dX8_doneIn_46 rfl ?_
        refine cr_sub (lv' := [(0, .ref (E.2.1 8 0)), (1, .int v43_5)]) [1, 0] rfl ?_
        exact ih v43_5 S39_4
      · refine cr_iload_n X 1 rfl dX8_doneIn_33 ?_
        exact cr_iret X rfl rfl dX8_doneIn_34
set_option maxHeartbeats 4000000 in
set_option maxRecDepth 100000 in
theorem c_X8_doneIn (l : Launch) (E : cr_E) (hEK : cr_EK E) (S : cr_S) : cr_M l E yX8_doneIn wsX8_doneIn rm_X8_doneIn [.ref (E.2.1 8 0)] S cr_vIS (s_X8_doneIn S) := by
  refine cr_enter (cc := cX8_doneIn) (nL := 2) (rt := (some .int)) hEK (by decide) rfl (Nat.le_of_ble_eq_true rfl) (fun Γ hΓ X => ?_)
  subst hΓ
  have X : cr_X Γ E cX8_doneIn 2 RX8 wsX8_doneIn rm_X8_doneIn (some .int) := X
  unfold s_X8_doneIn
  show cr_P Γ E 2 _ 0 0 S 0 ([(0, .ref (E.2.1 8 0))]) [] _
  refine cr_aload_n X 0 rfl dX8_doneIn_0 ?_
  refine cr_get X ((cr_b0 E).at rfl rfl) rfl i_X8_doneIn_X8 1 (by decide) k_X8_doneIn_1 rfl dX8_doneIn_1 ?_
  refine cr_aload_n X 0 rfl dX8_doneIn_4 ?_
  refine cr_get X ((cr_b0 E).at rfl rfl) rfl i_X8_doneIn_X8 0 (by decide) k_X8_doneIn_2 rfl dX8_doneIn_5 ?_
  refine cr_callV X (As := [.ref (E.2.1 0 0)]) (rest := []) (c_X2_copyFrom_S Γ.2.1 E hEK S (show 1 < 8 by decide) (show 0 < 8 by decide) (show (0 : Nat) ≠ 1 by omega)) ((cr_a0 E (show 1 < 8 by decide)).at rfl rfl) rfl 1 gX8_doneIn_X2_copyFrom rfl rfl rfl (by decide +kernel) ⟨Nat.le_of_ble_eq_true rfl, Nat.le_of_ble_eq_true rfl⟩ (by decide) rfl rfl (Nat.le_of_ble_eq_true rfl) dX8_doneIn_8 (fun r8_1 => ?_)
  show cr_P Γ E 2 _ 0 0 (cr_us S 1 r8_1) 11 ([(0, .ref (E.2.1 8 0))]) ([]) _
  refine cr_bds (fun S8_2 => ?_)
  refine cr_iconst X (0 : Int32) (by decide) dX8_doneIn_11 ?_
  refine cr_istore_n X ([(1, .int ((0 : Int32))), (0, .ref (E.2.1 8 0))]) rfl (by decide) dX8_doneIn_12 ?_
  refine cr_sub (lv' := [(0, .ref (E.2.1 8 0)), (1, .int ((0 : Int32)))]) [1, 0] rfl ?_
  exact b_X8_doneIn_13 X 1200 ((0 : Int32)) S8_2
theorem k_X8_ifPassed_3 : (Cond.fieldLink RX8 16 "CraneCampaign" "trial" "LCraneCampaign$Farm;") ∈ wsX8_ifPassed := List.mem_of_getElem? (i := 3) (by rfl)
theorem k_X8_ifPassed_4 : (Cond.fieldLink RX8 10 "CraneCampaign" "farm" "LCraneCampaign$Farm;") ∈ wsX8_ifPassed := List.mem_of_getElem? (i := 4) (by rfl)
theorem i_X8_ifPassed_X8 : ∀ w ∈ wsX80, w ∈ wsX8_ifPassed := by decide +kernel
abbrev rm_X8_ifPassed : Room := { frames := 5, cells := 0, slots := 0, locals := 119 }
set_option maxHeartbeats 4000000 in
set_option maxRecDepth 100000 in
theorem b_X8_ifPassed_21 {Γ : cr_C} {E : cr_E} (X : cr_X Γ E cX8_ifPassed 3 RX8 wsX8_ifPassed rm_X8_ifPassed (some .int))  (S : cr_S) : cr_P Γ E 3 (cr_F Γ E cr_vIS) 0 0 S 21 ([]) ([]) (t_X8_ifPassed_21 S) := by
  have hEK := X.2.2.2.2.2.2.1
  unfold t_X8_ifPassed_21
  exact cr_none
set_option maxHeartbeats 4000000 in
set_option maxRecDepth 100000 in
theorem c_X8_ifPassed (l : Launch) (E : cr_E) (hEK : cr_EK E) (S : cr_S) (p1 : Int32) (p2 : Int32) : cr_M l E yX8_ifPassed wsX8_ifPassed rm_X8_ifPassed [.ref (E.2.1 8 0), .int p1, .int p2] S cr_vIS (t_X8_ifPassed p1 p2 S) := by
  refine cr_enter (cc := cX8_ifPassed) (nL := 3) (rt := (some .int)) hEK (by decide) rfl (Nat.le_of_ble_eq_true rfl) (fun Γ hΓ X => ?_)
  subst hΓ
  have X : cr_X Γ E cX8_ifPassed 3 RX8 wsX8_ifPassed rm_X8_ifPassed (some .int) := X
  unfold t_X8_ifPassed
  show cr_P Γ E 3 _ 0 0 S 0 ([(0, .ref (E.2.1 8 0)), (1, .int p1), (2, .int p2)]) [] _
  refine cr_iload_n X 1 rfl dX8_ifPassed_0 ?_
  refine cr_iconst X (1 : Int32) (by decide) dX8_ifPassed_1 ?_
  refine cr_sipush X (200 : Int32) (by decide) dX8_ifPassed_2 ?_
  refine cr_callS X (As := [.int p1, .int ((1 : Int32)), .int ((200 : Int32))]) (rest := []) (c_X8_isWithin Γ.2.1 E hEK S p1 ((1 : Int32)) ((200 : Int32))) 3 gX8_ifPassed_X8_isWithin rfl rfl rfl (by decide +kernel) ⟨Nat.le_of_ble_eq_true rfl, Nat.le_of_ble_eq_true rfl⟩ (by decide) rfl rfl (Nat.le_of_ble_eq_true rfl) dX8_ifPassed_5 (fun r5_1 => ?_)
  show cr_P Γ E 3 _ 0 0 S 8 ([(0, .ref (E.2.1 8 0)), (1, .int p1), (2, .int p2)]) ([.int (cr_b r5_1)]) _
  refine cr_ifb_eq X 21 dX8_ifPassed_8 rfl ?_ ?_
  · refine cr_sub (lv' := []) [] rfl ?_
    exact b_X8_ifPassed_21 X S
  · refine cr_iload_n X 2 rfl dX8_ifPassed_11 ?_
    refine cr_iconst X (0 : Int32) (by decide) dX8_ifPassed_12 ?_
    refine cr_bipush X (8 : Int32) (by decide) dX8_ifPassed_13 ?_
    refine cr_callS X (As := [.int p2, .int ((0 : Int32)), .int ((8 : Int32))]) (rest := []) (c_X8_isWithin Γ.2.1 E hEK S p2 ((0 : Int32)) ((8 : Int32))) 3 gX8_ifPassed_X8_isWithin rfl rfl rfl (by decide +kernel) ⟨Nat.le_of_ble_eq_true rfl, Nat.le_of_ble_eq_true rfl⟩ (by decide) rfl rfl (Nat.le_of_ble_eq_true rfl) dX8_ifPassed_15 (fun r15_2 => ?_)
    show cr_P Γ E 3 _ 0 0 S 18 ([(0, .ref (E.2.1 8 0)), (1, .int p1), (2, .int p2)]) ([.int (cr_b r15_2)]) _
    refine cr_ifb_ne X 32 dX8_ifPassed_18 rfl ?_ ?_
    · refine cr_aload_n X 0 rfl dX8_ifPassed_32 ?_
      refine cr_get X ((cr_b0 E).at rfl rfl) rfl i_X8_ifPassed_X8 1 (by decide) k_X8_ifPassed_3 rfl dX8_ifPassed_33 ?_
      refine cr_aload_n X 0 rfl dX8_ifPassed_36 ?_
      refine cr_get X ((cr_b0 E).at rfl rfl) rfl i_X8_ifPassed_X8 0 (by decide) k_X8_ifPassed_4 rfl dX8_ifPassed_37 ?_
      refine cr_callV X (As := [.ref (E.2.1 0 0)]) (rest := []) (c_X2_copyFrom_S Γ.2.1 E hEK S (show 1 < 8 by decide) (show 0 < 8 by decide) (show (0 : Nat) ≠ 1 by omega)) ((cr_a0 E (show 1 < 8 by decide)).at rfl rfl) rfl 1 gX8_ifPassed_X2_copyFrom rfl rfl rfl (by decide +kernel) ⟨Nat.le_of_ble_eq_true rfl, Nat.le_of_ble_eq_true rfl⟩ (by decide) rfl rfl (Nat.le_of_ble_eq_true rfl) dX8_ifPassed_40 (fun r40_3 => ?_)
      show cr_P Γ E 3 _ 0 0 (cr_us S 1 r40_3) 43 ([(0, .ref (E.2.1 8 0)), (1, .int p1), (2, .int p2)]) ([]) _
      refine cr_bds (fun S40_4 => ?_)
      refine cr_aload_n X 0 rfl dX8_ifPassed_43 ?_
      refine cr_get X ((cr_b0 E).at rfl rfl) rfl i_X8_ifPassed_X8 1 (by decide) k_X8_ifPassed_3 rfl dX8_ifPassed_44 ?_
      refine cr_iload_n X 1 rfl dX8_ifPassed_47 ?_
      refine cr_callV X (As := [.int p1]) (rest := []) (c_X2_runHours_S Γ.2.1 E hEK S40_4 (show 1 < 8 by decide) p1) ((cr_a0 E (show 1 < 8 by decide)).at rfl rfl) rfl 1 gX8_ifPassed_X2_runHours rfl rfl rfl (by decide +kernel) ⟨Nat.le_of_ble_eq_true rfl, Nat.le_of_ble_eq_true rfl⟩ (by decide) rfl rfl (Nat.le_of_ble_eq_true rfl) dX8_ifPassed_48 (fun r48_5 => ?_)
      show cr_P Γ E 3 _ 0 0 (cr_us S40_4 1 r48_5.2) 51 ([(0, .ref (E.2.1 8 0)), (1, .int p1), (2, .int p2)]) ([.int r48_5.1]) _
      refine cr_bds (fun S48_6 => ?_)
      refine cr_pop X rfl dX8_ifPassed_51 ?_
      refine cr_aload_n X 0 rfl dX8_ifPassed_52 ?_
      refine cr_get X ((cr_b0 E).at rfl rfl) rfl i_X8_ifPassed_X8 1 (by decide) k_X8_ifPassed_3 rfl dX8_ifPassed_53 ?_
      refine cr_iload_n X 2 rfl dX8_ifPassed_56 ?_
      refine cr_callV X (As := [.int p2]) (rest := []) (c_X2_outcome_S Γ.2.1 E hEK S48_6 (show 1 < 8 by decide) p2) ((cr_a0 E (show 1 < 8 by decide)).at rfl rfl) rfl 1 gX8_ifPassed_X2_outcome rfl rfl rfl (by decide +kernel) ⟨Nat.le_of_ble_eq_true rfl, Nat.le_of_ble_eq_true rfl⟩ (by decide) rfl rfl (Nat.le_of_ble_eq_true rfl) dX8_ifPassed_57 (fun r57_7 => ?_)
      show cr_P Γ E 3 _ 0 0 S48_6 60 ([(0, .ref (E.2.1 8 0)), (1, .int p1), (2, .int p2)]) ([.int r57_7]) _
      exact cr_iret X rfl rfl dX8_ifPassed_60
    · refine cr_sub (lv' := []) [] rfl ?_
      exact b_X8_ifPassed_21 X S
theorem k_X8_load_5 : (Cond.fieldLink RX8 33 "CraneCampaign" "buffer" "LCraneCampaign$WindText;") ∈ wsX8_load := List.mem_of_getElem? (i := 5) (by rfl)
theorem k_X8_load_6 : (Cond.fieldLink RX8 10 "CraneCampaign" "farm" "LCraneCampaign$Farm;") ∈ wsX8_load := List.mem_of_getElem? (i := 6) (by rfl)
theorem k_X8_load_7 : (Cond.fieldLink RX8 202 "CraneCampaign$Farm" "winds" "LCraneCampaign$Winds;") ∈ wsX8_load := List.mem_of_getElem? (i := 7) (by rfl)
theorem k_X8_load_8 : (Cond.fieldLink RX8 186 "CraneCampaign$WindText" "length" "I") ∈ wsX8_load := List.mem_of_getElem? (i := 8) (by rfl)
theorem k_X8_load_9 : (Cond.fieldLink RX8 210 "CraneCampaign$Winds" "count" "I") ∈ wsX8_load := List.mem_of_getElem? (i := 9) (by rfl)
theorem i_X8_load_X2 : ∀ w ∈ wsX20, w ∈ wsX8_load := by decide +kernel
theorem i_X8_load_X6 : ∀ w ∈ wsX60, w ∈ wsX8_load := by decide +kernel
theorem i_X8_load_X7 : ∀ w ∈ wsX70, w ∈ wsX8_load := by decide +kernel
theorem i_X8_load_X8 : ∀ w ∈ wsX80, w ∈ wsX8_load := by decide +kernel
abbrev rm_X8_load : Room := { frames := 4, cells := 0, slots := 0, locals := 103 }
set_option maxHeartbeats 4000000 in
set_option maxRecDepth 100000 in
theorem c_X8_load (l : Launch) (E : cr_E) (hEK : cr_EK E) (S : cr_S) : cr_M l E yX8_load wsX8_load rm_X8_load [.ref (E.2.1 8 0)] S cr_vIS (t_X8_load S) := by
  refine cr_enter (cc := cX8_load) (nL := 1) (rt := (some .int)) hEK (by decide) rfl (Nat.le_of_ble_eq_true rfl) (fun Γ hΓ X => ?_)
  subst hΓ
  have X : cr_X Γ E cX8_load 1 RX8 wsX8_load rm_X8_load (some .int) := X
  unfold t_X8_load
  show cr_P Γ E 1 _ 0 0 S 0 ([(0, .ref (E.2.1 8 0))]) [] _
  refine cr_aload_n X 0 rfl dX8_load_0 ?_
  refine cr_get X ((cr_b0 E).at rfl rfl) rfl i_X8_load_X8 5 (by decide) k_X8_load_5 rfl dX8_load_1 ?_
  refine cr_callV X (As := []) (rest := []) (c_X6_isComplete_S Γ.2.1 E hEK S) ((cr_b2 E).at rfl rfl) rfl 0 gX8_load_X6_isComplete rfl rfl rfl (by decide +kernel) ⟨Nat.le_of_ble_eq_true rfl, Nat.le_of_ble_eq_true rfl⟩ (by decide) rfl rfl (Nat.le_of_ble_eq_true rfl) dX8_load_4 (fun r4_1 => ?_)
  show cr_P Γ E 1 _ 0 0 S 7 ([(0, .ref (E.2.1 8 0))]) ([.int (cr_b r4_1)]) _
  refine cr_ifb_ne X 20 dX8_load_7 rfl ?_ ?_
  · refine cr_aload_n X 0 rfl dX8_load_20 ?_
    refine cr_get X ((cr_b0 E).at rfl rfl) rfl i_X8_load_X8 5 (by decide) k_X8_load_5 rfl dX8_load_21 ?_
    refine cr_callV X (As := []) (rest := []) (c_X6_numberCount_S Γ.2.1 E hEK S) ((cr_b2 E).at rfl rfl) rfl 0 gX8_load_X6_numberCount rfl rfl rfl (by decide +kernel) ⟨Nat.le_of_ble_eq_true rfl, Nat.le_of_ble_eq_true rfl⟩ (by decide) rfl rfl (Nat.le_of_ble_eq_true rfl) dX8_load_24 (fun r24_2 => ?_)
    show cr_P Γ E 1 _ 0 0 S 27 ([(0, .ref (E.2.1 8 0))]) ([.int r24_2]) _
    refine cr_bipush X (48 : Int32) (by decide) dX8_load_27 ?_
    refine cr_icmp_le X 42 dX8_load_29 rfl ?_ ?_
    · refine cr_aload_n X 0 rfl dX8_load_42 ?_
      refine cr_callV X (As := []) (rest := []) (c_X8_saveState Γ.2.1 E hEK S) ((cr_b0 E).at rfl rfl) rfl 0 gX8_load_X8_saveState rfl rfl rfl (by decide +kernel) ⟨Nat.le_of_ble_eq_true rfl, Nat.le_of_ble_eq_true rfl⟩ (by decide) rfl rfl (Nat.le_of_ble_eq_true rfl) dX8_load_43 (fun r43_3 => ?_)
      show cr_P Γ E 1 _ 0 0 r43_3 46 ([(0, .ref (E.2.1 8 0))]) ([]) _
      refine cr_aload_n X 0 rfl dX8_load_46 ?_
      refine cr_get X ((cr_b0 E).at rfl rfl) rfl i_X8_load_X8 5 (by decide) k_X8_load_5 rfl dX8_load_47 ?_
      refine cr_aload_n X 0 rfl dX8_load_50 ?_
      refine cr_get X ((cr_b0 E).at rfl rfl) rfl i_X8_load_X8 0 (by decide) k_X8_load_6 rfl dX8_load_51 ?_
      refine cr_get X ((cr_a0 E (show 0 < 8 by decide)).at rfl rfl) rfl i_X8_load_X2 6 (by decide) k_X8_load_7 rfl dX8_load_54 ?_
      refine cr_callV X (As := [.ref (E.2.1 0 11)]) (rest := []) (c_X6_writeTo Γ.2.1 E hEK r43_3) ((cr_b2 E).at rfl rfl) rfl 1 gX8_load_X6_writeTo rfl rfl rfl (by decide +kernel) ⟨Nat.le_of_ble_eq_true rfl, Nat.le_of_ble_eq_true rfl⟩ (by decide) rfl rfl (Nat.le_of_ble_eq_true rfl) dX8_load_57 (fun r57_4 => ?_)
      show cr_P Γ E 1 _ 0 0 r57_4 60 ([(0, .ref (E.2.1 8 0))]) ([]) _
      refine cr_aload_n X 0 rfl dX8_load_60 ?_
      refine cr_get X ((cr_b0 E).at rfl rfl) rfl i_X8_load_X8 5 (by decide) k_X8_load_5 rfl dX8_load_61 ?_
      refine cr_iconst X (0 : Int32) (by decide) dX8_load_64 ?_
      refine cr_putS X (cr_b2 E) 1 rfl rfl rfl i_X8_load_X6 tyX6 tyX6_ok nmX6 (by decide) k_X8_load_8 rfl rfl rfl (Nat.le_of_ble_eq_true rfl) dX8_load_65 (fun S65_5 => ?_)
      refine cr_aload_n X 0 rfl dX8_load_68 ?_
      refine cr_get X ((cr_b0 E).at rfl rfl) rfl i_X8_load_X8 0 (by decide) k_X8_load_6 rfl dX8_load_69 ?_
      refine cr_get X ((cr_a0 E (show 0 < 8 by decide)).at rfl rfl) rfl i_X8_load_X2 6 (by decide) k_X8_load_7 rfl dX8_load_72 ?_
      refine cr_get X ((cr_a11 E (show 0 < 8 by decide)).at rfl rfl) rfl i_X8_load_X7 1 (by decide) k_X8_load_9 rfl dX8_load_75 ?_
      exact cr_iret X rfl rfl dX8_load_78
    · exact cr_none
  · exact cr_none
theorem k_X8_lostShare_1 : (Cond.fieldLink RX8 10 "CraneCampaign" "farm" "LCraneCampaign$Farm;") ∈ wsX8_lostShare := List.mem_of_getElem? (i := 1) (by rfl)
theorem i_X8_lostShare_X8 : ∀ w ∈ wsX80, w ∈ wsX8_lostShare := by decide +kernel
abbrev rm_X8_lostShare : Room := { frames := 1, cells := 0, slots := 0, locals := 22 }
set_option maxHeartbeats 4000000 in
set_option maxRecDepth 100000 in
theorem c_X8_lostShare (l : Launch) (E : cr_E) (hEK : cr_EK E) (S : cr_S) : cr_M l E yX8_lostShare wsX8_lostShare rm_X8_lostShare [.ref (E.2.1 8 0)] S (cr_vD S) (s_X8_lostShare S) := by
  refine cr_enter (cc := cX8_lostShare) (nL := 3) (rt := (some .double)) hEK (by decide) rfl (Nat.le_of_ble_eq_true rfl) (fun Γ hΓ X => ?_)
  subst hΓ
  have X : cr_X Γ E cX8_lostShare 3 RX8 wsX8_lostShare rm_X8_lostShare (some .double) := X
  unfold s_X8_lostShare
  show cr_P Γ E 3 _ 0 0 S 0 ([(0, .ref (E.2.1 8 0))]) [] _
  refine cr_aload_n X 0 rfl dX8_lostShare_0 ?_
  refine cr_get X ((cr_b0 E).at rfl rfl) rfl i_X8_lostShare_X8 0 (by decide) k_X8_lostShare_1 rfl dX8_lostShare_1 ?_
  refine cr_callV X (As := []) (rest := []) (c_X2_lostPower_S Γ.2.1 E hEK S (show 0 < 8 by decide)) ((cr_a0 E (show 0 < 8 by decide)).at rfl rfl) rfl 0 gX8_lostShare_X2_lostPower rfl rfl rfl (by decide +kernel) ⟨Nat.le_of_ble_eq_true rfl, Nat.le_of_ble_eq_true rfl⟩ (by decide) rfl rfl (Nat.le_of_ble_eq_true rfl) dX8_lostShare_4 (fun r4_1 => ?_)
  show cr_P Γ E 3 _ 0 0 S 7 ([(0, .ref (E.2.1 8 0))]) ([.int r4_1]) _
  refine cr_istore_n X ([(1, .int r4_1), (0, .ref (E.2.1 8 0))]) rfl (by decide) dX8_lostShare_7 ?_
  refine cr_iload_n X 0 rfl dX8_lostShare_8 ?_
  refine cr_aload_n X 1 rfl dX8_lostShare_9 ?_
  refine cr_get X ((cr_b0 E).at rfl rfl) rfl i_X8_lostShare_X8 0 (by decide) k_X8_lostShare_1 rfl dX8_lostShare_10 ?_
  refine cr_callV X (As := []) (rest := [.int r4_1]) (c_X2_wonPower_S Γ.2.1 E hEK S (show 0 < 8 by decide)) ((cr_a0 E (show 0 < 8 by decide)).at rfl rfl) rfl 0 gX8_lostShare_X2_wonPower rfl rfl rfl (by decide +kernel) ⟨Nat.le_of_ble_eq_true rfl, Nat.le_of_ble_eq_true rfl⟩ (by decide) rfl rfl (Nat.le_of_ble_eq_true rfl) dX8_lostShare_13 (fun r13_2 => ?_)
  show cr_P Γ E 3 _ 0 0 S 16 ([(1, .int r4_1), (0, .ref (E.2.1 8 0))]) ([.int r13_2, .int r4_1]) _
  refine cr_iadd X dX8_lostShare_16 ?_
  refine cr_istore_nb X (fun v17_3 => [(2, .int v17_3), (1, .int r4_1), (0, .ref (E.2.1 8 0))]) (fun _ => rfl) (by decide) dX8_lostShare_17 (fun v17_3 => ?_)
  refine cr_iload_n X 0 rfl dX8_lostShare_18 ?_
  refine cr_if_le X 30 dX8_lostShare_19 rfl ?_ ?_
  · refine cr_dconst0 X dX8_lostShare_30 ?_
    exact cr_dret X rfl rfl dX8_lostShare_31
  · refine cr_iload_n X 1 rfl dX8_lostShare_22 ?_
    refine cr_i2d X dX8_lostShare_23 ?_
    refine cr_iload_n X 0 rfl dX8_lostShare_24 ?_
    refine cr_i2d X dX8_lostShare_25 ?_
    refine cr_ddiv X dX8_lostShare_26 ?_
    refine cr_goto X 31 dX8_lostShare_27 rfl ?_
    exact cr_dret X rfl rfl dX8_lostShare_31
theorem k_X8_meanWind_1 : (Cond.fieldLink RX8 10 "CraneCampaign" "farm" "LCraneCampaign$Farm;") ∈ wsX8_meanWind := List.mem_of_getElem? (i := 1) (by rfl)
theorem k_X8_meanWind_2 : (Cond.fieldLink RX8 202 "CraneCampaign$Farm" "winds" "LCraneCampaign$Winds;") ∈ wsX8_meanWind := List.mem_of_getElem? (i := 2) (by rfl)
theorem k_X8_meanWind_3 : (Cond.fieldLink RX8 210 "CraneCampaign$Winds" "count" "I") ∈ wsX8_meanWind := List.mem_of_getElem? (i := 3) (by rfl)
theorem k_X8_meanWind_4 : (Cond.constantFloat RX8 277 (1090519040)) ∈ wsX8_meanWind := List.mem_of_getElem? (i := 4) (by rfl)
theorem i_X8_meanWind_X2 : ∀ w ∈ wsX20, w ∈ wsX8_meanWind := by decide +kernel
theorem i_X8_meanWind_X7 : ∀ w ∈ wsX70, w ∈ wsX8_meanWind := by decide +kernel
theorem i_X8_meanWind_X8 : ∀ w ∈ wsX80, w ∈ wsX8_meanWind := by decide +kernel
abbrev rm_X8_meanWind : Room := { frames := 1, cells := 0, slots := 0, locals := 22 }
set_option maxHeartbeats 4000000 in
set_option maxRecDepth 100000 in
theorem c_X8_meanWind (l : Launch) (E : cr_E) (hEK : cr_EK E) (S : cr_S) : cr_M l E yX8_meanWind wsX8_meanWind rm_X8_meanWind [.ref (E.2.1 8 0)] S (cr_vF S) (s_X8_meanWind S) := by
  refine cr_enter (cc := cX8_meanWind) (nL := 2) (rt := (some .float)) hEK (by decide) rfl (Nat.le_of_ble_eq_true rfl) (fun Γ hΓ X => ?_)
  subst hΓ
  have X : cr_X Γ E cX8_meanWind 2 RX8 wsX8_meanWind rm_X8_meanWind (some .float) := X
  unfold s_X8_meanWind
  show cr_P Γ E 2 _ 0 0 S 0 ([(0, .ref (E.2.1 8 0))]) [] _
  refine cr_aload_n X 0 rfl dX8_meanWind_0 ?_
  refine cr_get X ((cr_b0 E).at rfl rfl) rfl i_X8_meanWind_X8 0 (by decide) k_X8_meanWind_1 rfl dX8_meanWind_1 ?_
  refine cr_get X ((cr_a0 E (show 0 < 8 by decide)).at rfl rfl) rfl i_X8_meanWind_X2 6 (by decide) k_X8_meanWind_2 rfl dX8_meanWind_4 ?_
  refine cr_get X ((cr_a11 E (show 0 < 8 by decide)).at rfl rfl) rfl i_X8_meanWind_X7 1 (by decide) k_X8_meanWind_3 rfl dX8_meanWind_7 ?_
  refine cr_istore_nb X (fun v10_1 => [(1, .int v10_1), (0, .ref (E.2.1 8 0))]) (fun _ => rfl) (by decide) dX8_meanWind_10 (fun v10_1 => ?_)
  refine cr_iload_n X 0 rfl dX8_meanWind_11 ?_
  refine cr_if_le X 32 dX8_meanWind_12 rfl ?_ ?_
  · refine cr_ldcwf X k_X8_meanWind_4 dX8_meanWind_32 ?_
    exact cr_fret X rfl rfl dX8_meanWind_35
  · refine cr_aload_n X 1 rfl dX8_meanWind_15 ?_
    refine cr_get X ((cr_b0 E).at rfl rfl) rfl i_X8_meanWind_X8 0 (by decide) k_X8_meanWind_1 rfl dX8_meanWind_16 ?_
    refine cr_get X ((cr_a0 E (show 0 < 8 by decide)).at rfl rfl) rfl i_X8_meanWind_X2 6 (by decide) k_X8_meanWind_2 rfl dX8_meanWind_19 ?_
    refine cr_callV X (As := []) (rest := []) (c_X7_sum_S Γ.2.1 E hEK S (show 0 < 8 by decide)) ((cr_a11 E (show 0 < 8 by decide)).at rfl rfl) rfl 0 gX8_meanWind_X7_sum rfl rfl rfl (by decide +kernel) ⟨Nat.le_of_ble_eq_true rfl, Nat.le_of_ble_eq_true rfl⟩ (by decide) rfl rfl (Nat.le_of_ble_eq_true rfl) dX8_meanWind_22 (fun r22_2 => ?_)
    show cr_P Γ E 2 _ 0 0 S 25 ([(1, .int v10_1), (0, .ref (E.2.1 8 0))]) ([.int r22_2]) _
    refine cr_i2f X dX8_meanWind_25 ?_
    refine cr_iload_n X 0 rfl dX8_meanWind_26 ?_
    refine cr_i2f X dX8_meanWind_27 ?_
    refine cr_fdiv X dX8_meanWind_28 ?_
    refine cr_goto X 35 dX8_meanWind_29 rfl ?_
    exact cr_fret X rfl rfl dX8_meanWind_35
theorem k_X8_requireTurbine_3 : (Cond.fieldLink RX8 10 "CraneCampaign" "farm" "LCraneCampaign$Farm;") ∈ wsX8_requireTurbine := List.mem_of_getElem? (i := 3) (by rfl)
theorem i_X8_requireTurbine_X8 : ∀ w ∈ wsX80, w ∈ wsX8_requireTurbine := by decide +kernel
abbrev rm_X8_requireTurbine : Room := { frames := 1, cells := 0, slots := 0, locals := 21 }
set_option maxHeartbeats 4000000 in
set_option maxRecDepth 100000 in
theorem c_X8_requireTurbine (l : Launch) (E : cr_E) (hEK : cr_EK E) (S : cr_S) (p1 : Int32) : cr_M l E yX8_requireTurbine wsX8_requireTurbine rm_X8_requireTurbine [.ref (E.2.1 8 0), .int p1] S (cr_vU S) (t_X8_requireTurbine S p1) := by
  refine cr_enter (cc := cX8_requireTurbine) (nL := 2) (rt := none) hEK (by decide) rfl (Nat.le_of_ble_eq_true rfl) (fun Γ hΓ X => ?_)
  subst hΓ
  have X : cr_X Γ E cX8_requireTurbine 2 RX8 wsX8_requireTurbine rm_X8_requireTurbine none := X
  unfold t_X8_requireTurbine
  show cr_P Γ E 2 _ 0 0 S 0 ([(0, .ref (E.2.1 8 0)), (1, .int p1)]) [] _
  refine cr_aload_n X 0 rfl dX8_requireTurbine_0 ?_
  refine cr_get X ((cr_b0 E).at rfl rfl) rfl i_X8_requireTurbine_X8 0 (by decide) k_X8_requireTurbine_3 rfl dX8_requireTurbine_1 ?_
  refine cr_iload_n X 1 rfl dX8_requireTurbine_4 ?_
  refine cr_callV X (As := [.int p1]) (rest := []) (c_X2_hasTurbine_S Γ.2.1 E hEK S (show 0 < 8 by decide) p1) ((cr_a0 E (show 0 < 8 by decide)).at rfl rfl) rfl 1 gX8_requireTurbine_X2_hasTurbine rfl rfl rfl (by decide +kernel) ⟨Nat.le_of_ble_eq_true rfl, Nat.le_of_ble_eq_true rfl⟩ (by decide) rfl rfl (Nat.le_of_ble_eq_true rfl) dX8_requireTurbine_5 (fun r5_1 => ?_)
  show cr_P Γ E 2 _ 0 0 S 8 ([(0, .ref (E.2.1 8 0)), (1, .int p1)]) ([.int (cr_b r5_1)]) _
  refine cr_ifb_ne X 22 dX8_requireTurbine_8 rfl ?_ ?_
  · exact cr_vret X rfl rfl dX8_requireTurbine_22
  · exact cr_none
theorem k_X8_orderBlade_3 : (Cond.fieldLink RX8 10 "CraneCampaign" "farm" "LCraneCampaign$Farm;") ∈ wsX8_orderBlade := List.mem_of_getElem? (i := 3) (by rfl)
theorem k_X8_orderBlade_4 : (Cond.fieldLink RX8 151 "CraneCampaign$Farm" "harbour" "LCraneCampaign$Harbour;") ∈ wsX8_orderBlade := List.mem_of_getElem? (i := 4) (by rfl)
theorem k_X8_orderBlade_5 : (Cond.fieldLink RX8 73 "CraneCampaign$Farm" "turbines" "[LCraneCampaign$Turbine;") ∈ wsX8_orderBlade := List.mem_of_getElem? (i := 5) (by rfl)
theorem k_X8_orderBlade_6 : (Cond.fieldLink RX8 167 "CraneCampaign$Harbour" "count" "I") ∈ wsX8_orderBlade := List.mem_of_getElem? (i := 6) (by rfl)
theorem i_X8_orderBlade_X2 : ∀ w ∈ wsX20, w ∈ wsX8_orderBlade := by decide +kernel
theorem i_X8_orderBlade_X3 : ∀ w ∈ wsX30, w ∈ wsX8_orderBlade := by decide +kernel
theorem i_X8_orderBlade_X8 : ∀ w ∈ wsX80, w ∈ wsX8_orderBlade := by decide +kernel
abbrev rm_X8_orderBlade : Room := { frames := 4, cells := 0, slots := 0, locals := 103 }
set_option maxHeartbeats 4000000 in
set_option maxRecDepth 100000 in
theorem c_X8_orderBlade (l : Launch) (E : cr_E) (hEK : cr_EK E) (S : cr_S) (p1 : Int32) : cr_M l E yX8_orderBlade wsX8_orderBlade rm_X8_orderBlade [.ref (E.2.1 8 0), .int p1] S cr_vIS (t_X8_orderBlade p1 S) := by
  refine cr_enter (cc := cX8_orderBlade) (nL := 2) (rt := (some .int)) hEK (by decide) rfl (Nat.le_of_ble_eq_true rfl) (fun Γ hΓ X => ?_)
  subst hΓ
  have X : cr_X Γ E cX8_orderBlade 2 RX8 wsX8_orderBlade rm_X8_orderBlade (some .int) := X
  unfold t_X8_orderBlade
  show cr_P Γ E 2 _ 0 0 S 0 ([(0, .ref (E.2.1 8 0)), (1, .int p1)]) [] _
  refine cr_aload_n X 0 rfl dX8_orderBlade_0 ?_
  refine cr_iload_n X 1 rfl dX8_orderBlade_1 ?_
  refine cr_callV X (As := [.int p1]) (rest := []) (c_X8_requireTurbine Γ.2.1 E hEK S p1) ((cr_b0 E).at rfl rfl) rfl 1 gX8_orderBlade_X8_requireTurbine rfl rfl rfl (by decide +kernel) ⟨Nat.le_of_ble_eq_true rfl, Nat.le_of_ble_eq_true rfl⟩ (by decide) rfl rfl (Nat.le_of_ble_eq_true rfl) dX8_orderBlade_2 (fun r2_1 => ?_)
  show cr_P Γ E 2 _ 0 0 S 5 ([(0, .ref (E.2.1 8 0)), (1, .int p1)]) ([]) _
  refine cr_aload_n X 0 rfl dX8_orderBlade_5 ?_
  refine cr_get X ((cr_b0 E).at rfl rfl) rfl i_X8_orderBlade_X8 0 (by decide) k_X8_orderBlade_3 rfl dX8_orderBlade_6 ?_
  refine cr_get X ((cr_a0 E (show 0 < 8 by decide)).at rfl rfl) rfl i_X8_orderBlade_X2 3 (by decide) k_X8_orderBlade_4 rfl dX8_orderBlade_9 ?_
  refine cr_callV X (As := []) (rest := []) (c_X3_isFull_S Γ.2.1 E hEK S (show 0 < 8 by decide)) ((cr_a5 E (show 0 < 8 by decide)).at rfl rfl) rfl 0 gX8_orderBlade_X3_isFull rfl rfl rfl (by decide +kernel) ⟨Nat.le_of_ble_eq_true rfl, Nat.le_of_ble_eq_true rfl⟩ (by decide) rfl rfl (Nat.le_of_ble_eq_true rfl) dX8_orderBlade_12 (fun r12_2 => ?_)
  show cr_P Γ E 2 _ 0 0 S 15 ([(0, .ref (E.2.1 8 0)), (1, .int p1)]) ([.int (cr_b r12_2)]) _
  refine cr_ifb_eq X 28 dX8_orderBlade_15 rfl ?_ ?_
  · refine cr_aload_n X 0 rfl dX8_orderBlade_28 ?_
    refine cr_callV X (As := []) (rest := []) (c_X8_saveState Γ.2.1 E hEK S) ((cr_b0 E).at rfl rfl) rfl 0 gX8_orderBlade_X8_saveState rfl rfl rfl (by decide +kernel) ⟨Nat.le_of_ble_eq_true rfl, Nat.le_of_ble_eq_true rfl⟩ (by decide) rfl rfl (Nat.le_of_ble_eq_true rfl) dX8_orderBlade_29 (fun r29_3 => ?_)
    show cr_P Γ E 2 _ 0 0 r29_3 32 ([(0, .ref (E.2.1 8 0)), (1, .int p1)]) ([]) _
    refine cr_aload_n X 0 rfl dX8_orderBlade_32 ?_
    refine cr_get X ((cr_b0 E).at rfl rfl) rfl i_X8_orderBlade_X8 0 (by decide) k_X8_orderBlade_3 rfl dX8_orderBlade_33 ?_
    refine cr_get X ((cr_a0 E (show 0 < 8 by decide)).at rfl rfl) rfl i_X8_orderBlade_X2 3 (by decide) k_X8_orderBlade_4 rfl dX8_orderBlade_36 ?_
    refine cr_iload_n X 1 rfl dX8_orderBlade_39 ?_
    refine cr_aload_n X 0 rfl dX8_orderBlade_40 ?_
    refine cr_get X ((cr_b0 E).at rfl rfl) rfl i_X8_orderBlade_X8 0 (by decide) k_X8_orderBlade_3 rfl dX8_orderBlade_41 ?_
    refine cr_get X ((cr_a0 E (show 0 < 8 by decide)).at rfl rfl) rfl i_X8_orderBlade_X2 0 (by decide) k_X8_orderBlade_5 rfl dX8_orderBlade_44 ?_
    refine cr_iload_n X 1 rfl dX8_orderBlade_47 ?_
    refine cr_aald X 3 rfl ((cr_a1 E (show 0 < 8 by decide)).at rfl rfl) dX8_orderBlade_48 (fun t48_4 ht48_4 => ?_)
    refine cr_callV X (As := []) (rest := [.int p1, .ref (E.2.1 0 5)]) (c_X5_bladeWeight_S Γ.2.1 E hEK r29_3 (show 0 < 8 by decide) ht48_4) ((cr_aT E (show 0 < 8 by decide) ht48_4).at rfl rfl) rfl 0 gX8_orderBlade_X5_bladeWeight rfl rfl rfl (by decide +kernel) ⟨Nat.le_of_ble_eq_true rfl, Nat.le_of_ble_eq_true rfl⟩ (by decide) rfl rfl (Nat.le_of_ble_eq_true rfl) dX8_orderBlade_49 (fun r49_5 => ?_)
    show cr_P Γ E 2 _ 0 0 r29_3 52 ([(0, .ref (E.2.1 8 0)), (1, .int p1)]) ([.int r49_5, .int p1, .ref (E.2.1 0 5)]) _
    refine cr_callV X (As := [.int p1, .int r49_5]) (rest := []) (c_X3_take_S Γ.2.1 E hEK r29_3 (show 0 < 8 by decide) p1 r49_5) ((cr_a5 E (show 0 < 8 by decide)).at rfl rfl) rfl 2 gX8_orderBlade_X3_take rfl rfl rfl (by decide +kernel) ⟨Nat.le_of_ble_eq_true rfl, Nat.le_of_ble_eq_true rfl⟩ (by decide) rfl rfl (Nat.le_of_ble_eq_true rfl) dX8_orderBlade_52 (fun r52_6 => ?_)
    show cr_P Γ E 2 _ 0 0 (cr_us r29_3 0 r52_6) 55 ([(0, .ref (E.2.1 8 0)), (1, .int p1)]) ([]) _
    refine cr_bds (fun S52_7 => ?_)
    refine cr_aload_n X 0 rfl dX8_orderBlade_55 ?_
    refine cr_get X ((cr_b0 E).at rfl rfl) rfl i_X8_orderBlade_X8 0 (by decide) k_X8_orderBlade_3 rfl dX8_orderBlade_56 ?_
    refine cr_get X ((cr_a0 E (show 0 < 8 by decide)).at rfl rfl) rfl i_X8_orderBlade_X2 3 (by decide) k_X8_orderBlade_4 rfl dX8_orderBlade_59 ?_
    refine cr_get X ((cr_a5 E (show 0 < 8 by decide)).at rfl rfl) rfl i_X8_orderBlade_X3 2 (by decide) k_X8_orderBlade_6 rfl dX8_orderBlade_62 ?_
    exact cr_iret X rfl rfl dX8_orderBlade_65
  · exact cr_none
theorem k_X8_pass_5 : (Cond.fieldLink RX8 10 "CraneCampaign" "farm" "LCraneCampaign$Farm;") ∈ wsX8_pass := List.mem_of_getElem? (i := 5) (by rfl)
theorem k_X8_pass_6 : (Cond.fieldLink RX8 170 "CraneCampaign$Farm" "hour" "I") ∈ wsX8_pass := List.mem_of_getElem? (i := 6) (by rfl)
theorem i_X8_pass_X2 : ∀ w ∈ wsX20, w ∈ wsX8_pass := by decide +kernel
theorem i_X8_pass_X8 : ∀ w ∈ wsX80, w ∈ wsX8_pass := by decide +kernel
abbrev rm_X8_pass : Room := { frames := 5, cells := 0, slots := 0, locals := 119 }
set_option maxHeartbeats 4000000 in
set_option maxRecDepth 100000 in
theorem c_X8_pass (l : Launch) (E : cr_E) (hEK : cr_EK E) (S : cr_S) (p1 : Int32) : cr_M l E yX8_pass wsX8_pass rm_X8_pass [.ref (E.2.1 8 0), .int p1] S cr_vIS (t_X8_pass p1 S) := by
  refine cr_enter (cc := cX8_pass) (nL := 2) (rt := (some .int)) hEK (by decide) rfl (Nat.le_of_ble_eq_true rfl) (fun Γ hΓ X => ?_)
  subst hΓ
  have X : cr_X Γ E cX8_pass 2 RX8 wsX8_pass rm_X8_pass (some .int) := X
  unfold t_X8_pass
  show cr_P Γ E 2 _ 0 0 S 0 ([(0, .ref (E.2.1 8 0)), (1, .int p1)]) [] _
  refine cr_iload_n X 1 rfl dX8_pass_0 ?_
  refine cr_iconst X (1 : Int32) (by decide) dX8_pass_1 ?_
  refine cr_sipush X (200 : Int32) (by decide) dX8_pass_2 ?_
  refine cr_callS X (As := [.int p1, .int ((1 : Int32)), .int ((200 : Int32))]) (rest := []) (c_X8_isWithin Γ.2.1 E hEK S p1 ((1 : Int32)) ((200 : Int32))) 3 gX8_pass_X8_isWithin rfl rfl rfl (by decide +kernel) ⟨Nat.le_of_ble_eq_true rfl, Nat.le_of_ble_eq_true rfl⟩ (by decide) rfl rfl (Nat.le_of_ble_eq_true rfl) dX8_pass_5 (fun r5_1 => ?_)
  show cr_P Γ E 2 _ 0 0 S 8 ([(0, .ref (E.2.1 8 0)), (1, .int p1)]) ([.int (cr_b r5_1)]) _
  refine cr_ifb_ne X 21 dX8_pass_8 rfl ?_ ?_
  · refine cr_aload_n X 0 rfl dX8_pass_21 ?_
    refine cr_get X ((cr_b0 E).at rfl rfl) rfl i_X8_pass_X8 0 (by decide) k_X8_pass_5 rfl dX8_pass_22 ?_
    refine cr_get X ((cr_a0 E (show 0 < 8 by decide)).at rfl rfl) rfl i_X8_pass_X2 9 (by decide) k_X8_pass_6 rfl dX8_pass_25 ?_
    refine cr_iload_n X 1 rfl dX8_pass_28 ?_
    refine cr_iadd X dX8_pass_29 ?_
    refine cr_sipush X (10000 : Int32) (by decide) dX8_pass_30 ?_
    refine cr_icmp_le X 46 dX8_pass_33 rfl ?_ ?_
    · refine cr_aload_n X 0 rfl dX8_pass_46 ?_
      refine cr_callV X (As := []) (rest := []) (c_X8_saveState Γ.2.1 E hEK S) ((cr_b0 E).at rfl rfl) rfl 0 gX8_pass_X8_saveState rfl rfl rfl (by decide +kernel) ⟨Nat.le_of_ble_eq_true rfl, Nat.le_of_ble_eq_true rfl⟩ (by decide) rfl rfl (Nat.le_of_ble_eq_true rfl) dX8_pass_47 (fun r47_2 => ?_)
      show cr_P Γ E 2 _ 0 0 r47_2 50 ([(0, .ref (E.2.1 8 0)), (1, .int p1)]) ([]) _
      refine cr_aload_n X 0 rfl dX8_pass_50 ?_
      refine cr_get X ((cr_b0 E).at rfl rfl) rfl i_X8_pass_X8 0 (by decide) k_X8_pass_5 rfl dX8_pass_51 ?_
      refine cr_iload_n X 1 rfl dX8_pass_54 ?_
      refine cr_callV X (As := [.int p1]) (rest := []) (c_X2_runHours_S Γ.2.1 E hEK r47_2 (show 0 < 8 by decide) p1) ((cr_a0 E (show 0 < 8 by decide)).at rfl rfl) rfl 1 gX8_pass_X2_runHours rfl rfl rfl (by decide +kernel) ⟨Nat.le_of_ble_eq_true rfl, Nat.le_of_ble_eq_true rfl⟩ (by decide) rfl rfl (Nat.le_of_ble_eq_true rfl) dX8_pass_55 (fun r55_3 => ?_)
      show cr_P Γ E 2 _ 0 0 (cr_us r47_2 0 r55_3.2) 58 ([(0, .ref (E.2.1 8 0)), (1, .int p1)]) ([.int r55_3.1]) _
      refine cr_bds (fun S55_4 => ?_)
      exact cr_iret X rfl rfl dX8_pass_58
    · exact cr_none
  · exact cr_none
theorem k_X8_plan_3 : (Cond.fieldLink RX8 10 "CraneCampaign" "farm" "LCraneCampaign$Farm;") ∈ wsX8_plan := List.mem_of_getElem? (i := 3) (by rfl)
theorem k_X8_plan_4 : (Cond.fieldLink RX8 125 "CraneCampaign$Farm" "plan" "LCraneCampaign$Plan;") ∈ wsX8_plan := List.mem_of_getElem? (i := 4) (by rfl)
theorem k_X8_plan_5 : (Cond.fieldLink RX8 142 "CraneCampaign$Plan" "count" "I") ∈ wsX8_plan := List.mem_of_getElem? (i := 5) (by rfl)
theorem i_X8_plan_X2 : ∀ w ∈ wsX20, w ∈ wsX8_plan := by decide +kernel
theorem i_X8_plan_X4 : ∀ w ∈ wsX40, w ∈ wsX8_plan := by decide +kernel
theorem i_X8_plan_X8 : ∀ w ∈ wsX80, w ∈ wsX8_plan := by decide +kernel
abbrev rm_X8_plan : Room := { frames := 4, cells := 0, slots := 0, locals := 103 }
set_option maxHeartbeats 4000000 in
set_option maxRecDepth 100000 in
theorem c_X8_plan (l : Launch) (E : cr_E) (hEK : cr_EK E) (S : cr_S) (p1 : Int32) (p2 : Int32) : cr_M l E yX8_plan wsX8_plan rm_X8_plan [.ref (E.2.1 8 0), .int p1, .int p2] S cr_vIS (t_X8_plan p1 p2 S) := by
  refine cr_enter (cc := cX8_plan) (nL := 3) (rt := (some .int)) hEK (by decide) rfl (Nat.le_of_ble_eq_true rfl) (fun Γ hΓ X => ?_)
  subst hΓ
  have X : cr_X Γ E cX8_plan 3 RX8 wsX8_plan rm_X8_plan (some .int) := X
  unfold t_X8_plan
  show cr_P Γ E 3 _ 0 0 S 0 ([(0, .ref (E.2.1 8 0)), (1, .int p1), (2, .int p2)]) [] _
  refine cr_aload_n X 0 rfl dX8_plan_0 ?_
  refine cr_iload_n X 1 rfl dX8_plan_1 ?_
  refine cr_callV X (As := [.int p1]) (rest := []) (c_X8_requireTurbine Γ.2.1 E hEK S p1) ((cr_b0 E).at rfl rfl) rfl 1 gX8_plan_X8_requireTurbine rfl rfl rfl (by decide +kernel) ⟨Nat.le_of_ble_eq_true rfl, Nat.le_of_ble_eq_true rfl⟩ (by decide) rfl rfl (Nat.le_of_ble_eq_true rfl) dX8_plan_2 (fun r2_1 => ?_)
  show cr_P Γ E 3 _ 0 0 S 5 ([(0, .ref (E.2.1 8 0)), (1, .int p1), (2, .int p2)]) ([]) _
  refine cr_iload_n X 2 rfl dX8_plan_5 ?_
  refine cr_iconst X (0 : Int32) (by decide) dX8_plan_6 ?_
  refine cr_aload_n X 0 rfl dX8_plan_7 ?_
  refine cr_get X ((cr_b0 E).at rfl rfl) rfl i_X8_plan_X8 0 (by decide) k_X8_plan_3 rfl dX8_plan_8 ?_
  refine cr_get X ((cr_a0 E (show 0 < 8 by decide)).at rfl rfl) rfl i_X8_plan_X2 4 (by decide) k_X8_plan_4 rfl dX8_plan_11 ?_
  refine cr_iload_n X 1 rfl dX8_plan_14 ?_
  refine cr_callV X (As := [.int p1]) (rest := [.int ((0 : Int32)), .int p2]) (c_X4_countWithout_S Γ.2.1 E hEK S (show 0 < 8 by decide) p1) ((cr_a8 E (show 0 < 8 by decide)).at rfl rfl) rfl 1 gX8_plan_X4_countWithout rfl rfl rfl (by decide +kernel) ⟨Nat.le_of_ble_eq_true rfl, Nat.le_of_ble_eq_true rfl⟩ (by decide) rfl rfl (Nat.le_of_ble_eq_true rfl) dX8_plan_15 (fun r15_2 => ?_)
  show cr_P Γ E 3 _ 0 0 S 18 ([(0, .ref (E.2.1 8 0)), (1, .int p1), (2, .int p2)]) ([.int r15_2, .int ((0 : Int32)), .int p2]) _
  refine cr_callS X (As := [.int p2, .int ((0 : Int32)), .int r15_2]) (rest := []) (c_X8_isWithin Γ.2.1 E hEK S p2 ((0 : Int32)) r15_2) 3 gX8_plan_X8_isWithin rfl rfl rfl (by decide +kernel) ⟨Nat.le_of_ble_eq_true rfl, Nat.le_of_ble_eq_true rfl⟩ (by decide) rfl rfl (Nat.le_of_ble_eq_true rfl) dX8_plan_18 (fun r18_3 => ?_)
  show cr_P Γ E 3 _ 0 0 S 21 ([(0, .ref (E.2.1 8 0)), (1, .int p1), (2, .int p2)]) ([.int (cr_b r18_3)]) _
  refine cr_ifb_ne X 34 dX8_plan_21 rfl ?_ ?_
  · refine cr_aload_n X 0 rfl dX8_plan_34 ?_
    refine cr_callV X (As := []) (rest := []) (c_X8_saveState Γ.2.1 E hEK S) ((cr_b0 E).at rfl rfl) rfl 0 gX8_plan_X8_saveState rfl rfl rfl (by decide +kernel) ⟨Nat.le_of_ble_eq_true rfl, Nat.le_of_ble_eq_true rfl⟩ (by decide) rfl rfl (Nat.le_of_ble_eq_true rfl) dX8_plan_35 (fun r35_4 => ?_)
    show cr_P Γ E 3 _ 0 0 r35_4 38 ([(0, .ref (E.2.1 8 0)), (1, .int p1), (2, .int p2)]) ([]) _
    refine cr_aload_n X 0 rfl dX8_plan_38 ?_
    refine cr_get X ((cr_b0 E).at rfl rfl) rfl i_X8_plan_X8 0 (by decide) k_X8_plan_3 rfl dX8_plan_39 ?_
    refine cr_get X ((cr_a0 E (show 0 < 8 by decide)).at rfl rfl) rfl i_X8_plan_X2 4 (by decide) k_X8_plan_4 rfl dX8_plan_42 ?_
    refine cr_iload_n X 1 rfl dX8_plan_45 ?_
    refine cr_iload_n X 2 rfl dX8_plan_46 ?_
    refine cr_callV X (As := [.int p1, .int p2]) (rest := []) (c_X4_moveTo_S Γ.2.1 E hEK r35_4 (show 0 < 8 by decide) p1 p2) ((cr_a8 E (show 0 < 8 by decide)).at rfl rfl) rfl 2 gX8_plan_X4_moveTo rfl rfl rfl (by decide +kernel) ⟨Nat.le_of_ble_eq_true rfl, Nat.le_of_ble_eq_true rfl⟩ (by decide) rfl rfl (Nat.le_of_ble_eq_true rfl) dX8_plan_47 (fun r47_5 => ?_)
    show cr_P Γ E 3 _ 0 0 (cr_us r35_4 0 r47_5) 50 ([(0, .ref (E.2.1 8 0)), (1, .int p1), (2, .int p2)]) ([]) _
    refine cr_bds (fun S47_6 => ?_)
    refine cr_aload_n X 0 rfl dX8_plan_50 ?_
    refine cr_get X ((cr_b0 E).at rfl rfl) rfl i_X8_plan_X8 0 (by decide) k_X8_plan_3 rfl dX8_plan_51 ?_
    refine cr_get X ((cr_a0 E (show 0 < 8 by decide)).at rfl rfl) rfl i_X8_plan_X2 4 (by decide) k_X8_plan_4 rfl dX8_plan_54 ?_
    refine cr_get X ((cr_a8 E (show 0 < 8 by decide)).at rfl rfl) rfl i_X8_plan_X4 1 (by decide) k_X8_plan_5 rfl dX8_plan_57 ?_
    exact cr_iret X rfl rfl dX8_plan_60
  · exact cr_none
abbrev rm_X8_requireSetting : Room := { frames := 1, cells := 0, slots := 0, locals := 22 }
set_option maxHeartbeats 4000000 in
set_option maxRecDepth 100000 in
theorem c_X8_requireSetting (l : Launch) (E : cr_E) (hEK : cr_EK E) (S : cr_S) (p0 : Int32) : cr_M l E yX8_requireSetting wsX8_requireSetting rm_X8_requireSetting [.int p0] S (cr_vU S) (t_X8_requireSetting p0) := by
  refine cr_enter (cc := cX8_requireSetting) (nL := 1) (rt := none) hEK (by decide) rfl (Nat.le_of_ble_eq_true rfl) (fun Γ hΓ X => ?_)
  subst hΓ
  have X : cr_X Γ E cX8_requireSetting 1 RX8 wsX8_requireSetting rm_X8_requireSetting none := X
  unfold t_X8_requireSetting
  show cr_P Γ E 1 _ 0 0 S 0 ([(0, .int p0)]) [] _
  refine cr_iload_n X 0 rfl dX8_requireSetting_0 ?_
  refine cr_iconst X (0 : Int32) (by decide) dX8_requireSetting_1 ?_
  refine cr_bipush X (6 : Int32) (by decide) dX8_requireSetting_2 ?_
  refine cr_callS X (As := [.int p0, .int ((0 : Int32)), .int ((6 : Int32))]) (rest := []) (c_X8_isWithin Γ.2.1 E hEK S p0 ((0 : Int32)) ((6 : Int32))) 3 gX8_requireSetting_X8_isWithin rfl rfl rfl (by decide +kernel) ⟨Nat.le_of_ble_eq_true rfl, Nat.le_of_ble_eq_true rfl⟩ (by decide) rfl rfl (Nat.le_of_ble_eq_true rfl) dX8_requireSetting_4 (fun r4_1 => ?_)
  show cr_P Γ E 1 _ 0 0 S 7 ([(0, .int p0)]) ([.int (cr_b r4_1)]) _
  refine cr_ifb_ne X 21 dX8_requireSetting_7 rfl ?_ ?_
  · exact cr_vret X rfl rfl dX8_requireSetting_21
  · exact cr_none
theorem k_X8_set_3 : (Cond.fieldLink RX8 113 "CraneCampaign" "SETTING_LOWEST" "[I") ∈ wsX8_set := List.mem_of_getElem? (i := 3) (by rfl)
theorem k_X8_set_4 : (Cond.fieldLink RX8 117 "CraneCampaign" "SETTING_HIGHEST" "[I") ∈ wsX8_set := List.mem_of_getElem? (i := 4) (by rfl)
theorem k_X8_set_5 : (Cond.fieldLink RX8 10 "CraneCampaign" "farm" "LCraneCampaign$Farm;") ∈ wsX8_set := List.mem_of_getElem? (i := 5) (by rfl)
theorem k_X8_set_6 : (Cond.fieldLink RX8 122 "CraneCampaign$Farm" "settings" "[I") ∈ wsX8_set := List.mem_of_getElem? (i := 6) (by rfl)
theorem i_X8_set_X2 : ∀ w ∈ wsX20, w ∈ wsX8_set := by decide +kernel
theorem i_X8_set_X8 : ∀ w ∈ wsX80, w ∈ wsX8_set := by decide +kernel
abbrev rm_X8_set : Room := { frames := 4, cells := 0, slots := 0, locals := 103 }
set_option maxHeartbeats 4000000 in
set_option maxRecDepth 100000 in
theorem c_X8_set (l : Launch) (E : cr_E) (hEK : cr_EK E) (S : cr_S) (p1 : Int32) (p2 : Int32) : cr_M l E yX8_set wsX8_set rm_X8_set [.ref (E.2.1 8 0), .int p1, .int p2] S cr_vIS (t_X8_set p1 p2 S) := by
  refine cr_enter (cc := cX8_set) (nL := 4) (rt := (some .int)) hEK (by decide) rfl (Nat.le_of_ble_eq_true rfl) (fun Γ hΓ X => ?_)
  subst hΓ
  have X : cr_X Γ E cX8_set 4 RX8 wsX8_set rm_X8_set (some .int) := X
  unfold t_X8_set
  show cr_P Γ E 4 _ 0 0 S 0 ([(0, .ref (E.2.1 8 0)), (1, .int p1), (2, .int p2)]) [] _
  refine cr_iload_n X 1 rfl dX8_set_0 ?_
  refine cr_callS X (As := [.int p1]) (rest := []) (c_X8_requireSetting Γ.2.1 E hEK S p1) 1 gX8_set_X8_requireSetting rfl rfl rfl (by decide +kernel) ⟨Nat.le_of_ble_eq_true rfl, Nat.le_of_ble_eq_true rfl⟩ (by decide) rfl rfl (Nat.le_of_ble_eq_true rfl) dX8_set_1 (fun r1_1 => ?_)
  show cr_P Γ E 4 _ 0 0 S 4 ([(0, .ref (E.2.1 8 0)), (1, .int p1), (2, .int p2)]) ([]) _
  refine cr_iload_n X 2 rfl dX8_set_4 ?_
  refine cr_gets1 X rfl k_X8_set_3 dX8_set_5 (fun b5_2 hb5_2 => ?_)
  refine cr_iload_n X 1 rfl dX8_set_8 ?_
  refine cr_satd X hb5_2 dX8_set_9 ?_
  refine cr_gets2 X rfl k_X8_set_4 dX8_set_10 (fun b10_3 hb10_3 => ?_)
  refine cr_iload_n X 1 rfl dX8_set_13 ?_
  refine cr_satd X hb10_3 dX8_set_14 ?_
  refine cr_callS X (As := [.int p2, .int ((cr_c1 (p1).toNatClampNeg)), .int ((cr_c2 (p1).toNatClampNeg))]) (rest := []) (c_X8_isWithin Γ.2.1 E hEK S p2 ((cr_c1 (p1).toNatClampNeg)) ((cr_c2 (p1).toNatClampNeg))) 3 gX8_set_X8_isWithin rfl rfl rfl (by decide +kernel) ⟨Nat.le_of_ble_eq_true rfl, Nat.le_of_ble_eq_true rfl⟩ (by decide) rfl rfl (Nat.le_of_ble_eq_true rfl) dX8_set_15 (fun r15_4 => ?_)
  show cr_P Γ E 4 _ 0 0 S 18 ([(0, .ref (E.2.1 8 0)), (1, .int p1), (2, .int p2)]) ([.int (cr_b r15_4)]) _
  refine cr_ifb_ne X 31 dX8_set_18 rfl ?_ ?_
  · refine cr_aload_n X 0 rfl dX8_set_31 ?_
    refine cr_callV X (As := []) (rest := []) (c_X8_saveState Γ.2.1 E hEK S) ((cr_b0 E).at rfl rfl) rfl 0 gX8_set_X8_saveState rfl rfl rfl (by decide +kernel) ⟨Nat.le_of_ble_eq_true rfl, Nat.le_of_ble_eq_true rfl⟩ (by decide) rfl rfl (Nat.le_of_ble_eq_true rfl) dX8_set_32 (fun r32_5 => ?_)
    show cr_P Γ E 4 _ 0 0 r32_5 35 ([(0, .ref (E.2.1 8 0)), (1, .int p1), (2, .int p2)]) ([]) _
    refine cr_aload_n X 0 rfl dX8_set_35 ?_
    refine cr_get X ((cr_b0 E).at rfl rfl) rfl i_X8_set_X8 0 (by decide) k_X8_set_5 rfl dX8_set_36 ?_
    refine cr_get X ((cr_a0 E (show 0 < 8 by decide)).at rfl rfl) rfl i_X8_set_X2 7 (by decide) k_X8_set_6 rfl dX8_set_39 ?_
    refine cr_iload_n X 1 rfl dX8_set_42 ?_
    refine cr_iald X ((cr_a13 E (show 0 < 8 by decide)).at rfl rfl) dX8_set_43 ?_
    refine cr_istore_nb X (fun v44_6 => [(3, .int v44_6), (0, .ref (E.2.1 8 0)), (1, .int p1), (2, .int p2)]) (fun _ => rfl) (by decide) dX8_set_44 (fun v44_6 => ?_)
    refine cr_aload_n X 1 rfl dX8_set_45 ?_
    refine cr_get X ((cr_b0 E).at rfl rfl) rfl i_X8_set_X8 0 (by decide) k_X8_set_5 rfl dX8_set_46 ?_
    refine cr_get X ((cr_a0 E (show 0 < 8 by decide)).at rfl rfl) rfl i_X8_set_X2 7 (by decide) k_X8_set_6 rfl dX8_set_49 ?_
    refine cr_iload_n X 2 rfl dX8_set_52 ?_
    refine cr_iload_n X 3 rfl dX8_set_53 ?_
    refine cr_iastS X (cr_a13 E (show 0 < 8 by decide)) (fun _ _ => rfl) dX8_set_54 (fun S54_7 => ?_)
    refine cr_iload_n X 0 rfl dX8_set_55 ?_
    exact cr_iret X rfl rfl dX8_set_56
  · exact cr_none
theorem k_X8_setBog_5 : (Cond.fieldLink RX8 10 "CraneCampaign" "farm" "LCraneCampaign$Farm;") ∈ wsX8_setBog := List.mem_of_getElem? (i := 5) (by rfl)
theorem k_X8_setBog_6 : (Cond.fieldLink RX8 87 "CraneCampaign$Farm" "bogs" "LCraneCampaign$Bogs;") ∈ wsX8_setBog := List.mem_of_getElem? (i := 6) (by rfl)
theorem k_X8_setBog_7 : (Cond.fieldLink RX8 107 "CraneCampaign$Bogs" "count" "I") ∈ wsX8_setBog := List.mem_of_getElem? (i := 7) (by rfl)
theorem i_X8_setBog_X0 : ∀ w ∈ wsX00, w ∈ wsX8_setBog := by decide +kernel
theorem i_X8_setBog_X2 : ∀ w ∈ wsX20, w ∈ wsX8_setBog := by decide +kernel
theorem i_X8_setBog_X8 : ∀ w ∈ wsX80, w ∈ wsX8_setBog := by decide +kernel
abbrev rm_X8_setBog : Room := { frames := 4, cells := 0, slots := 0, locals := 103 }
set_option maxHeartbeats 4000000 in
set_option maxRecDepth 100000 in
theorem b_X8_setBog_20 {Γ : cr_C} {E : cr_E} (X : cr_X Γ E cX8_setBog 3 RX8 wsX8_setBog rm_X8_setBog (some .int))  (S : cr_S) : cr_P Γ E 3 (cr_F Γ E cr_vIS) 0 0 S 20 ([]) ([]) (t_X8_setBog_20 S) := by
  have hEK := X.2.2.2.2.2.2.1
  unfold t_X8_setBog_20
  exact cr_none
set_option maxHeartbeats 4000000 in
set_option maxRecDepth 100000 in
theorem b_X8_setBog_72 {Γ : cr_C} {E : cr_E} (X : cr_X Γ E cX8_setBog 3 RX8 wsX8_setBog rm_X8_setBog (some .int)) (x1 : Int32) (x2 : Int32) (S : cr_S) : cr_P Γ E 3 (cr_F Γ E cr_vIS) 0 0 S 72 ([(0, .ref (E.2.1 8 0)), (1, .int x1), (2, .int x2)]) ([]) (t_X8_setBog_72 x1 x2 S) := by
  have hEK := X.2.2.2.2.2.2.1
  unfold t_X8_setBog_72
  refine cr_aload_n X 0 rfl dX8_setBog_72 ?_
  refine cr_callV X (As := []) (rest := []) (c_X8_saveState Γ.2.1 E hEK S) ((cr_b0 E).at rfl rfl) rfl 0 gX8_setBog_X8_saveState rfl rfl rfl (by decide +kernel) ⟨Nat.le_of_ble_eq_true rfl, Nat.le_of_ble_eq_true rfl⟩ (by decide) rfl rfl (Nat.le_of_ble_eq_true rfl) dX8_setBog_73 (fun r73_5 => ?_)
  show cr_P Γ E 3 _ 0 0 r73_5 76 ([(0, .ref (E.2.1 8 0)), (1, .int x1), (2, .int x2)]) ([]) _
  refine cr_aload_n X 0 rfl dX8_setBog_76 ?_
  refine cr_get X ((cr_b0 E).at rfl rfl) rfl i_X8_setBog_X8 0 (by decide) k_X8_setBog_5 rfl dX8_setBog_77 ?_
  refine cr_get X ((cr_a0 E (show 0 < 8 by decide)).at rfl rfl) rfl i_X8_setBog_X2 2 (by decide) k_X8_setBog_6 rfl dX8_setBog_80 ?_
  refine cr_iload_n X 1 rfl dX8_setBog_83 ?_
  refine cr_iload_n X 2 rfl dX8_setBog_84 ?_
  refine cr_callV X (As := [.int x1, .int x2]) (rest := []) (c_X0_put_S Γ.2.1 E hEK r73_5 (show 0 < 8 by decide) x1 x2) ((cr_a2 E (show 0 < 8 by decide)).at rfl rfl) rfl 2 gX8_setBog_X0_put rfl rfl rfl (by decide +kernel) ⟨Nat.le_of_ble_eq_true rfl, Nat.le_of_ble_eq_true rfl⟩ (by decide) rfl rfl (Nat.le_of_ble_eq_true rfl) dX8_setBog_85 (fun r85_6 => ?_)
  show cr_P Γ E 3 _ 0 0 (cr_us r73_5 0 r85_6) 88 ([(0, .ref (E.2.1 8 0)), (1, .int x1), (2, .int x2)]) ([]) _
  refine cr_bds (fun S85_7 => ?_)
  refine cr_aload_n X 0 rfl dX8_setBog_88 ?_
  refine cr_get X ((cr_b0 E).at rfl rfl) rfl i_X8_setBog_X8 0 (by decide) k_X8_setBog_5 rfl dX8_setBog_89 ?_
  refine cr_get X ((cr_a0 E (show 0 < 8 by decide)).at rfl rfl) rfl i_X8_setBog_X2 2 (by decide) k_X8_setBog_6 rfl dX8_setBog_92 ?_
  refine cr_get X ((cr_a2 E (show 0 < 8 by decide)).at rfl rfl) rfl i_X8_setBog_X0 2 (by decide) k_X8_setBog_7 rfl dX8_setBog_95 ?_
  exact cr_iret X rfl rfl dX8_setBog_98
set_option maxHeartbeats 4000000 in
set_option maxRecDepth 100000 in
theorem c_X8_setBog (l : Launch) (E : cr_E) (hEK : cr_EK E) (S : cr_S) (p1 : Int32) (p2 : Int32) : cr_M l E yX8_setBog wsX8_setBog rm_X8_setBog [.ref (E.2.1 8 0), .int p1, .int p2] S cr_vIS (t_X8_setBog p1 p2 S) := by
  refine cr_enter (cc := cX8_setBog) (nL := 3) (rt := (some .int)) hEK (by decide) rfl (Nat.le_of_ble_eq_true rfl) (fun Γ hΓ X => ?_)
  subst hΓ
  have X : cr_X Γ E cX8_setBog 3 RX8 wsX8_setBog rm_X8_setBog (some .int) := X
  unfold t_X8_setBog
  show cr_P Γ E 3 _ 0 0 S 0 ([(0, .ref (E.2.1 8 0)), (1, .int p1), (2, .int p2)]) [] _
  refine cr_iload_n X 1 rfl dX8_setBog_0 ?_
  refine cr_iconst X (1 : Int32) (by decide) dX8_setBog_1 ?_
  refine cr_bipush X (99 : Int32) (by decide) dX8_setBog_2 ?_
  refine cr_callS X (As := [.int p1, .int ((1 : Int32)), .int ((99 : Int32))]) (rest := []) (c_X8_isWithin Γ.2.1 E hEK S p1 ((1 : Int32)) ((99 : Int32))) 3 gX8_setBog_X8_isWithin rfl rfl rfl (by decide +kernel) ⟨Nat.le_of_ble_eq_true rfl, Nat.le_of_ble_eq_true rfl⟩ (by decide) rfl rfl (Nat.le_of_ble_eq_true rfl) dX8_setBog_4 (fun r4_1 => ?_)
  show cr_P Γ E 3 _ 0 0 S 7 ([(0, .ref (E.2.1 8 0)), (1, .int p1), (2, .int p2)]) ([.int (cr_b r4_1)]) _
  refine cr_ifb_eq X 20 dX8_setBog_7 rfl ?_ ?_
  · refine cr_sub (lv' := []) [] rfl ?_
    exact b_X8_setBog_20 X S
  · refine cr_iload_n X 2 rfl dX8_setBog_10 ?_
    refine cr_iconst X (0 : Int32) (by decide) dX8_setBog_11 ?_
    refine cr_bipush X (50 : Int32) (by decide) dX8_setBog_12 ?_
    refine cr_callS X (As := [.int p2, .int ((0 : Int32)), .int ((50 : Int32))]) (rest := []) (c_X8_isWithin Γ.2.1 E hEK S p2 ((0 : Int32)) ((50 : Int32))) 3 gX8_setBog_X8_isWithin rfl rfl rfl (by decide +kernel) ⟨Nat.le_of_ble_eq_true rfl, Nat.le_of_ble_eq_true rfl⟩ (by decide) rfl rfl (Nat.le_of_ble_eq_true rfl) dX8_setBog_14 (fun r14_2 => ?_)
    show cr_P Γ E 3 _ 0 0 S 17 ([(0, .ref (E.2.1 8 0)), (1, .int p1), (2, .int p2)]) ([.int (cr_b r14_2)]) _
    refine cr_ifb_ne X 30 dX8_setBog_17 rfl ?_ ?_
    · refine cr_iload_n X 2 rfl dX8_setBog_30 ?_
      refine cr_if_eq X 72 dX8_setBog_31 rfl ?_ ?_
      · refine cr_sub (lv' := [(0, .ref (E.2.1 8 0)), (1, .int p1), (2, .int p2)]) [0, 1, 2] rfl ?_
        exact b_X8_setBog_72 X p1 p2 S
      · refine cr_aload_n X 0 rfl dX8_setBog_34 ?_
        refine cr_get X ((cr_b0 E).at rfl rfl) rfl i_X8_setBog_X8 0 (by decide) k_X8_setBog_5 rfl dX8_setBog_35 ?_
        refine cr_get X ((cr_a0 E (show 0 < 8 by decide)).at rfl rfl) rfl i_X8_setBog_X2 2 (by decide) k_X8_setBog_6 rfl dX8_setBog_38 ?_
        refine cr_callV X (As := []) (rest := []) (c_X0_isFull_S Γ.2.1 E hEK S (show 0 < 8 by decide)) ((cr_a2 E (show 0 < 8 by decide)).at rfl rfl) rfl 0 gX8_setBog_X0_isFull rfl rfl rfl (by decide +kernel) ⟨Nat.le_of_ble_eq_true rfl, Nat.le_of_ble_eq_true rfl⟩ (by decide) rfl rfl (Nat.le_of_ble_eq_true rfl) dX8_setBog_41 (fun r41_3 => ?_)
        show cr_P Γ E 3 _ 0 0 S 44 ([(0, .ref (E.2.1 8 0)), (1, .int p1), (2, .int p2)]) ([.int (cr_b r41_3)]) _
        refine cr_ifb_eq X 72 dX8_setBog_44 rfl ?_ ?_
        · refine cr_sub (lv' := [(0, .ref (E.2.1 8 0)), (1, .int p1), (2, .int p2)]) [0, 1, 2] rfl ?_
          exact b_X8_setBog_72 X p1 p2 S
        · refine cr_aload_n X 0 rfl dX8_setBog_47 ?_
          refine cr_get X ((cr_b0 E).at rfl rfl) rfl i_X8_setBog_X8 0 (by decide) k_X8_setBog_5 rfl dX8_setBog_48 ?_
          refine cr_get X ((cr_a0 E (show 0 < 8 by decide)).at rfl rfl) rfl i_X8_setBog_X2 2 (by decide) k_X8_setBog_6 rfl dX8_setBog_51 ?_
          refine cr_iload_n X 1 rfl dX8_setBog_54 ?_
          refine cr_callV X (As := [.int p1]) (rest := []) (c_X0_indexAt_S Γ.2.1 E hEK S (show 0 < 8 by decide) p1) ((cr_a2 E (show 0 < 8 by decide)).at rfl rfl) rfl 1 gX8_setBog_X0_indexAt rfl rfl rfl (by decide +kernel) ⟨Nat.le_of_ble_eq_true rfl, Nat.le_of_ble_eq_true rfl⟩ (by decide) rfl rfl (Nat.le_of_ble_eq_true rfl) dX8_setBog_55 (fun r55_4 => ?_)
          show cr_P Γ E 3 _ 0 0 S 58 ([(0, .ref (E.2.1 8 0)), (1, .int p1), (2, .int p2)]) ([.int r55_4]) _
          refine cr_iconst X (-1 : Int32) (by decide) dX8_setBog_58 ?_
          refine cr_icmp_ne X 72 dX8_setBog_59 rfl ?_ ?_
          · refine cr_sub (lv' := [(0, .ref (E.2.1 8 0)), (1, .int p1), (2, .int p2)]) [0, 1, 2] rfl ?_
            exact b_X8_setBog_72 X p1 p2 S
          · exact cr_none
    · refine cr_sub (lv' := []) [] rfl ?_
      exact b_X8_setBog_20 X S
theorem k_X8_setFault_3 : (Cond.fieldLink RX8 10 "CraneCampaign" "farm" "LCraneCampaign$Farm;") ∈ wsX8_setFault := List.mem_of_getElem? (i := 3) (by rfl)
theorem k_X8_setFault_4 : (Cond.fieldLink RX8 73 "CraneCampaign$Farm" "turbines" "[LCraneCampaign$Turbine;") ∈ wsX8_setFault := List.mem_of_getElem? (i := 4) (by rfl)
theorem k_X8_setFault_5 : (Cond.fieldLink RX8 77 "CraneCampaign$Turbine" "fault" "I") ∈ wsX8_setFault := List.mem_of_getElem? (i := 5) (by rfl)
theorem k_X8_setFault_6 : (Cond.fieldLink RX8 82 "CraneCampaign$Turbine" "age" "I") ∈ wsX8_setFault := List.mem_of_getElem? (i := 6) (by rfl)
theorem i_X8_setFault_X2 : ∀ w ∈ wsX20, w ∈ wsX8_setFault := by decide +kernel
theorem i_X8_setFault_X5 : ∀ w ∈ wsX50, w ∈ wsX8_setFault := by decide +kernel
theorem i_X8_setFault_X8 : ∀ w ∈ wsX80, w ∈ wsX8_setFault := by decide +kernel
abbrev rm_X8_setFault : Room := { frames := 4, cells := 0, slots := 0, locals := 103 }
set_option maxHeartbeats 4000000 in
set_option maxRecDepth 100000 in
theorem c_X8_setFault (l : Launch) (E : cr_E) (hEK : cr_EK E) (S : cr_S) (p1 : Int32) (p2 : Int32) : cr_M l E yX8_setFault wsX8_setFault rm_X8_setFault [.ref (E.2.1 8 0), .int p1, .int p2] S cr_vIS (t_X8_setFault p1 p2 S) := by
  refine cr_enter (cc := cX8_setFault) (nL := 5) (rt := (some .int)) hEK (by decide) rfl (Nat.le_of_ble_eq_true rfl) (fun Γ hΓ X => ?_)
  subst hΓ
  have X : cr_X Γ E cX8_setFault 5 RX8 wsX8_setFault rm_X8_setFault (some .int) := X
  unfold t_X8_setFault
  show cr_P Γ E 5 _ 0 0 S 0 ([(0, .ref (E.2.1 8 0)), (1, .int p1), (2, .int p2)]) [] _
  refine cr_aload_n X 0 rfl dX8_setFault_0 ?_
  refine cr_iload_n X 1 rfl dX8_setFault_1 ?_
  refine cr_callV X (As := [.int p1]) (rest := []) (c_X8_requireTurbine Γ.2.1 E hEK S p1) ((cr_b0 E).at rfl rfl) rfl 1 gX8_setFault_X8_requireTurbine rfl rfl rfl (by decide +kernel) ⟨Nat.le_of_ble_eq_true rfl, Nat.le_of_ble_eq_true rfl⟩ (by decide) rfl rfl (Nat.le_of_ble_eq_true rfl) dX8_setFault_2 (fun r2_1 => ?_)
  show cr_P Γ E 5 _ 0 0 S 5 ([(0, .ref (E.2.1 8 0)), (1, .int p1), (2, .int p2)]) ([]) _
  refine cr_iload_n X 2 rfl dX8_setFault_5 ?_
  refine cr_iconst X (0 : Int32) (by decide) dX8_setFault_6 ?_
  refine cr_iconst X (4 : Int32) (by decide) dX8_setFault_7 ?_
  refine cr_callS X (As := [.int p2, .int ((0 : Int32)), .int ((4 : Int32))]) (rest := []) (c_X8_isWithin Γ.2.1 E hEK S p2 ((0 : Int32)) ((4 : Int32))) 3 gX8_setFault_X8_isWithin rfl rfl rfl (by decide +kernel) ⟨Nat.le_of_ble_eq_true rfl, Nat.le_of_ble_eq_true rfl⟩ (by decide) rfl rfl (Nat.le_of_ble_eq_true rfl) dX8_setFault_8 (fun r8_2 => ?_)
  show cr_P Γ E 5 _ 0 0 S 11 ([(0, .ref (E.2.1 8 0)), (1, .int p1), (2, .int p2)]) ([.int (cr_b r8_2)]) _
  refine cr_ifb_ne X 24 dX8_setFault_11 rfl ?_ ?_
  · refine cr_aload_n X 0 rfl dX8_setFault_24 ?_
    refine cr_callV X (As := []) (rest := []) (c_X8_saveState Γ.2.1 E hEK S) ((cr_b0 E).at rfl rfl) rfl 0 gX8_setFault_X8_saveState rfl rfl rfl (by decide +kernel) ⟨Nat.le_of_ble_eq_true rfl, Nat.le_of_ble_eq_true rfl⟩ (by decide) rfl rfl (Nat.le_of_ble_eq_true rfl) dX8_setFault_25 (fun r25_3 => ?_)
    show cr_P Γ E 5 _ 0 0 r25_3 28 ([(0, .ref (E.2.1 8 0)), (1, .int p1), (2, .int p2)]) ([]) _
    refine cr_aload_n X 0 rfl dX8_setFault_28 ?_
    refine cr_get X ((cr_b0 E).at rfl rfl) rfl i_X8_setFault_X8 0 (by decide) k_X8_setFault_3 rfl dX8_setFault_29 ?_
    refine cr_get X ((cr_a0 E (show 0 < 8 by decide)).at rfl rfl) rfl i_X8_setFault_X2 0 (by decide) k_X8_setFault_4 rfl dX8_setFault_32 ?_
    refine cr_iload_n X 1 rfl dX8_setFault_35 ?_
    refine cr_aald X 3 rfl ((cr_a1 E (show 0 < 8 by decide)).at rfl rfl) dX8_setFault_36 (fun t36_4 ht36_4 => ?_)
    refine cr_astore_n X ([(3, .ref (E.2.1 0 (t36_4 + 15))), (0, .ref (E.2.1 8 0)), (1, .int p1), (2, .int p2)]) rfl (by decide) dX8_setFault_37 ?_
    refine cr_aload_n X 0 rfl dX8_setFault_38 ?_
    refine cr_get X ((cr_aT E (show 0 < 8 by decide) ht36_4).at rfl rfl) rfl i_X8_setFault_X5 3 (by decide) k_X8_setFault_5 rfl dX8_setFault_39 ?_
    refine cr_istoreb X (fun v42_5 => [(4, .int v42_5), (3, .ref (E.2.1 0 (t36_4 + 15))), (0, .ref (E.2.1 8 0)), (1, .int p1), (2, .int p2)]) (fun _ => rfl) (by decide) dX8_setFault_42 (fun v42_5 => ?_)
    refine cr_aload_n X 1 rfl dX8_setFault_44 ?_
    refine cr_iload_n X 4 rfl dX8_setFault_45 ?_
    refine cr_putS X (cr_aT E (show 0 < 8 by decide) ht36_4) 3 rfl rfl rfl i_X8_setFault_X5 tyX5 tyX5_ok nmX5 (by decide) k_X8_setFault_5 rfl rfl rfl (Nat.le_of_ble_eq_true rfl) dX8_setFault_46 (fun S46_6 => ?_)
    refine cr_aload_n X 1 rfl dX8_setFault_49 ?_
    refine cr_iconst X (0 : Int32) (by decide) dX8_setFault_50 ?_
    refine cr_putS X (cr_aT E (show 0 < 8 by decide) ht36_4) 4 rfl rfl rfl i_X8_setFault_X5 tyX5 tyX5_ok nmX5 (by decide) k_X8_setFault_6 rfl rfl rfl (Nat.le_of_ble_eq_true rfl) dX8_setFault_51 (fun S51_7 => ?_)
    refine cr_iload X 0 rfl dX8_setFault_54 ?_
    exact cr_iret X rfl rfl dX8_setFault_56
  · exact cr_none
theorem k_X8_setting_1 : (Cond.fieldLink RX8 10 "CraneCampaign" "farm" "LCraneCampaign$Farm;") ∈ wsX8_setting := List.mem_of_getElem? (i := 1) (by rfl)
theorem k_X8_setting_2 : (Cond.fieldLink RX8 122 "CraneCampaign$Farm" "settings" "[I") ∈ wsX8_setting := List.mem_of_getElem? (i := 2) (by rfl)
theorem i_X8_setting_X2 : ∀ w ∈ wsX20, w ∈ wsX8_setting := by decide +kernel
theorem i_X8_setting_X8 : ∀ w ∈ wsX80, w ∈ wsX8_setting := by decide +kernel
abbrev rm_X8_setting : Room := { frames := 2, cells := 0, slots := 0, locals := 42 }
set_option maxHeartbeats 4000000 in
set_option maxRecDepth 100000 in
theorem c_X8_setting (l : Launch) (E : cr_E) (hEK : cr_EK E) (S : cr_S) (p1 : Int32) : cr_M l E yX8_setting wsX8_setting rm_X8_setting [.ref (E.2.1 8 0), .int p1] S (cr_vI S) (t_X8_setting S p1) := by
  refine cr_enter (cc := cX8_setting) (nL := 2) (rt := (some .int)) hEK (by decide) rfl (Nat.le_of_ble_eq_true rfl) (fun Γ hΓ X => ?_)
  subst hΓ
  have X : cr_X Γ E cX8_setting 2 RX8 wsX8_setting rm_X8_setting (some .int) := X
  unfold t_X8_setting
  show cr_P Γ E 2 _ 0 0 S 0 ([(0, .ref (E.2.1 8 0)), (1, .int p1)]) [] _
  refine cr_iload_n X 1 rfl dX8_setting_0 ?_
  refine cr_callS X (As := [.int p1]) (rest := []) (c_X8_requireSetting Γ.2.1 E hEK S p1) 1 gX8_setting_X8_requireSetting rfl rfl rfl (by decide +kernel) ⟨Nat.le_of_ble_eq_true rfl, Nat.le_of_ble_eq_true rfl⟩ (by decide) rfl rfl (Nat.le_of_ble_eq_true rfl) dX8_setting_1 (fun r1_1 => ?_)
  show cr_P Γ E 2 _ 0 0 S 4 ([(0, .ref (E.2.1 8 0)), (1, .int p1)]) ([]) _
  refine cr_aload_n X 0 rfl dX8_setting_4 ?_
  refine cr_get X ((cr_b0 E).at rfl rfl) rfl i_X8_setting_X8 0 (by decide) k_X8_setting_1 rfl dX8_setting_5 ?_
  refine cr_get X ((cr_a0 E (show 0 < 8 by decide)).at rfl rfl) rfl i_X8_setting_X2 7 (by decide) k_X8_setting_2 rfl dX8_setting_8 ?_
  refine cr_iload_n X 1 rfl dX8_setting_11 ?_
  refine cr_iald X ((cr_a13 E (show 0 < 8 by decide)).at rfl rfl) dX8_setting_12 ?_
  exact cr_iret X rfl rfl dX8_setting_13
theorem k_X8_turbine_3 : (Cond.fieldLink RX8 10 "CraneCampaign" "farm" "LCraneCampaign$Farm;") ∈ wsX8_turbine := List.mem_of_getElem? (i := 3) (by rfl)
theorem i_X8_turbine_X8 : ∀ w ∈ wsX80, w ∈ wsX8_turbine := by decide +kernel
abbrev rm_X8_turbine : Room := { frames := 3, cells := 0, slots := 0, locals := 68 }
set_option maxHeartbeats 4000000 in
set_option maxRecDepth 100000 in
theorem c_X8_turbine (l : Launch) (E : cr_E) (hEK : cr_EK E) (S : cr_S) (p1 : Int32) (p2 : Int32) : cr_M l E yX8_turbine wsX8_turbine rm_X8_turbine [.ref (E.2.1 8 0), .int p1, .int p2] S (cr_vI S) (t_X8_turbine S p1 p2) := by
  refine cr_enter (cc := cX8_turbine) (nL := 3) (rt := (some .int)) hEK (by decide) rfl (Nat.le_of_ble_eq_true rfl) (fun Γ hΓ X => ?_)
  subst hΓ
  have X : cr_X Γ E cX8_turbine 3 RX8 wsX8_turbine rm_X8_turbine (some .int) := X
  unfold t_X8_turbine
  show cr_P Γ E 3 _ 0 0 S 0 ([(0, .ref (E.2.1 8 0)), (1, .int p1), (2, .int p2)]) [] _
  refine cr_aload_n X 0 rfl dX8_turbine_0 ?_
  refine cr_iload_n X 1 rfl dX8_turbine_1 ?_
  refine cr_callV X (As := [.int p1]) (rest := []) (c_X8_requireTurbine Γ.2.1 E hEK S p1) ((cr_b0 E).at rfl rfl) rfl 1 gX8_turbine_X8_requireTurbine rfl rfl rfl (by decide +kernel) ⟨Nat.le_of_ble_eq_true rfl, Nat.le_of_ble_eq_true rfl⟩ (by decide) rfl rfl (Nat.le_of_ble_eq_true rfl) dX8_turbine_2 (fun r2_1 => ?_)
  show cr_P Γ E 3 _ 0 0 S 5 ([(0, .ref (E.2.1 8 0)), (1, .int p1), (2, .int p2)]) ([]) _
  refine cr_iload_n X 2 rfl dX8_turbine_5 ?_
  refine cr_iconst X (0 : Int32) (by decide) dX8_turbine_6 ?_
  refine cr_bipush X (10 : Int32) (by decide) dX8_turbine_7 ?_
  refine cr_callS X (As := [.int p2, .int ((0 : Int32)), .int ((10 : Int32))]) (rest := []) (c_X8_isWithin Γ.2.1 E hEK S p2 ((0 : Int32)) ((10 : Int32))) 3 gX8_turbine_X8_isWithin rfl rfl rfl (by decide +kernel) ⟨Nat.le_of_ble_eq_true rfl, Nat.le_of_ble_eq_true rfl⟩ (by decide) rfl rfl (Nat.le_of_ble_eq_true rfl) dX8_turbine_9 (fun r9_2 => ?_)
  show cr_P Γ E 3 _ 0 0 S 12 ([(0, .ref (E.2.1 8 0)), (1, .int p1), (2, .int p2)]) ([.int (cr_b r9_2)]) _
  refine cr_ifb_ne X 25 dX8_turbine_12 rfl ?_ ?_
  · refine cr_aload_n X 0 rfl dX8_turbine_25 ?_
    refine cr_get X ((cr_b0 E).at rfl rfl) rfl i_X8_turbine_X8 0 (by decide) k_X8_turbine_3 rfl dX8_turbine_26 ?_
    refine cr_iload_n X 1 rfl dX8_turbine_29 ?_
    refine cr_iload_n X 2 rfl dX8_turbine_30 ?_
    refine cr_callV X (As := [.int p1, .int p2]) (rest := []) (c_X2_turbineProperty_S Γ.2.1 E hEK S (show 0 < 8 by decide) p1 p2) ((cr_a0 E (show 0 < 8 by decide)).at rfl rfl) rfl 2 gX8_turbine_X2_turbineProperty rfl rfl rfl (by decide +kernel) ⟨Nat.le_of_ble_eq_true rfl, Nat.le_of_ble_eq_true rfl⟩ (by decide) rfl rfl (Nat.le_of_ble_eq_true rfl) dX8_turbine_31 (fun r31_3 => ?_)
    show cr_P Γ E 3 _ 0 0 S 34 ([(0, .ref (E.2.1 8 0)), (1, .int p1), (2, .int p2)]) ([.int r31_3]) _
    exact cr_iret X rfl rfl dX8_turbine_34
  · exact cr_none
theorem k_X8_unplan_3 : (Cond.fieldLink RX8 10 "CraneCampaign" "farm" "LCraneCampaign$Farm;") ∈ wsX8_unplan := List.mem_of_getElem? (i := 3) (by rfl)
theorem k_X8_unplan_4 : (Cond.fieldLink RX8 125 "CraneCampaign$Farm" "plan" "LCraneCampaign$Plan;") ∈ wsX8_unplan := List.mem_of_getElem? (i := 4) (by rfl)
theorem i_X8_unplan_X2 : ∀ w ∈ wsX20, w ∈ wsX8_unplan := by decide +kernel
theorem i_X8_unplan_X8 : ∀ w ∈ wsX80, w ∈ wsX8_unplan := by decide +kernel
abbrev rm_X8_unplan : Room := { frames := 4, cells := 0, slots := 0, locals := 103 }
set_option maxHeartbeats 4000000 in
set_option maxRecDepth 100000 in
theorem c_X8_unplan (l : Launch) (E : cr_E) (hEK : cr_EK E) (S : cr_S) (p1 : Int32) : cr_M l E yX8_unplan wsX8_unplan rm_X8_unplan [.ref (E.2.1 8 0), .int p1] S cr_vIS (t_X8_unplan p1 S) := by
  refine cr_enter (cc := cX8_unplan) (nL := 3) (rt := (some .int)) hEK (by decide) rfl (Nat.le_of_ble_eq_true rfl) (fun Γ hΓ X => ?_)
  subst hΓ
  have X : cr_X Γ E cX8_unplan 3 RX8 wsX8_unplan rm_X8_unplan (some .int) := X
  unfold t_X8_unplan
  show cr_P Γ E 3 _ 0 0 S 0 ([(0, .ref (E.2.1 8 0)), (1, .int p1)]) [] _
  refine cr_aload_n X 0 rfl dX8_unplan_0 ?_
  refine cr_iload_n X 1 rfl dX8_unplan_1 ?_
  refine cr_callV X (As := [.int p1]) (rest := []) (c_X8_requireTurbine Γ.2.1 E hEK S p1) ((cr_b0 E).at rfl rfl) rfl 1 gX8_unplan_X8_requireTurbine rfl rfl rfl (by decide +kernel) ⟨Nat.le_of_ble_eq_true rfl, Nat.le_of_ble_eq_true rfl⟩ (by decide) rfl rfl (Nat.le_of_ble_eq_true rfl) dX8_unplan_2 (fun r2_1 => ?_)
  show cr_P Γ E 3 _ 0 0 S 5 ([(0, .ref (E.2.1 8 0)), (1, .int p1)]) ([]) _
  refine cr_aload_n X 0 rfl dX8_unplan_5 ?_
  refine cr_get X ((cr_b0 E).at rfl rfl) rfl i_X8_unplan_X8 0 (by decide) k_X8_unplan_3 rfl dX8_unplan_6 ?_
  refine cr_get X ((cr_a0 E (show 0 < 8 by decide)).at rfl rfl) rfl i_X8_unplan_X2 4 (by decide) k_X8_unplan_4 rfl dX8_unplan_9 ?_
  refine cr_iload_n X 1 rfl dX8_unplan_12 ?_
  refine cr_callV X (As := [.int p1]) (rest := []) (c_X4_placeOf_S Γ.2.1 E hEK S (show 0 < 8 by decide) p1) ((cr_a8 E (show 0 < 8 by decide)).at rfl rfl) rfl 1 gX8_unplan_X4_placeOf rfl rfl rfl (by decide +kernel) ⟨Nat.le_of_ble_eq_true rfl, Nat.le_of_ble_eq_true rfl⟩ (by decide) rfl rfl (Nat.le_of_ble_eq_true rfl) dX8_unplan_13 (fun r13_2 => ?_)
  show cr_P Γ E 3 _ 0 0 S 16 ([(0, .ref (E.2.1 8 0)), (1, .int p1)]) ([.int r13_2]) _
  refine cr_istore_n X ([(2, .int r13_2), (0, .ref (E.2.1 8 0)), (1, .int p1)]) rfl (by decide) dX8_unplan_16 ?_
  refine cr_iload_n X 0 rfl dX8_unplan_17 ?_
  refine cr_iconst X (-1 : Int32) (by decide) dX8_unplan_18 ?_
  refine cr_icmp_ne X 32 dX8_unplan_19 rfl ?_ ?_
  · refine cr_aload_n X 1 rfl dX8_unplan_32 ?_
    refine cr_callV X (As := []) (rest := []) (c_X8_saveState Γ.2.1 E hEK S) ((cr_b0 E).at rfl rfl) rfl 0 gX8_unplan_X8_saveState rfl rfl rfl (by decide +kernel) ⟨Nat.le_of_ble_eq_true rfl, Nat.le_of_ble_eq_true rfl⟩ (by decide) rfl rfl (Nat.le_of_ble_eq_true rfl) dX8_unplan_33 (fun r33_3 => ?_)
    show cr_P Γ E 3 _ 0 0 r33_3 36 ([(2, .int r13_2), (0, .ref (E.2.1 8 0)), (1, .int p1)]) ([]) _
    refine cr_aload_n X 1 rfl dX8_unplan_36 ?_
    refine cr_get X ((cr_b0 E).at rfl rfl) rfl i_X8_unplan_X8 0 (by decide) k_X8_unplan_3 rfl dX8_unplan_37 ?_
    refine cr_get X ((cr_a0 E (show 0 < 8 by decide)).at rfl rfl) rfl i_X8_unplan_X2 4 (by decide) k_X8_unplan_4 rfl dX8_unplan_40 ?_
    refine cr_iload_n X 0 rfl dX8_unplan_43 ?_
    refine cr_callV X (As := [.int r13_2]) (rest := []) (c_X4_removeAt_S Γ.2.1 E hEK r33_3 (show 0 < 8 by decide) r13_2) ((cr_a8 E (show 0 < 8 by decide)).at rfl rfl) rfl 1 gX8_unplan_X4_removeAt rfl rfl rfl (by decide +kernel) ⟨Nat.le_of_ble_eq_true rfl, Nat.le_of_ble_eq_true rfl⟩ (by decide) rfl rfl (Nat.le_of_ble_eq_true rfl) dX8_unplan_44 (fun r44_4 => ?_)
    show cr_P Γ E 3 _ 0 0 (cr_us r33_3 0 r44_4) 47 ([(2, .int r13_2), (0, .ref (E.2.1 8 0)), (1, .int p1)]) ([]) _
    refine cr_bds (fun S44_5 => ?_)
    refine cr_iload_n X 0 rfl dX8_unplan_47 ?_
    exact cr_iret X rfl rfl dX8_unplan_48
  · exact cr_none
theorem k_X8_way_3 : (Cond.fieldLink RX8 10 "CraneCampaign" "farm" "LCraneCampaign$Farm;") ∈ wsX8_way := List.mem_of_getElem? (i := 3) (by rfl)
theorem i_X8_way_X8 : ∀ w ∈ wsX80, w ∈ wsX8_way := by decide +kernel
abbrev rm_X8_way : Room := { frames := 2, cells := 0, slots := 0, locals := 50 }
set_option maxHeartbeats 4000000 in
set_option maxRecDepth 100000 in
theorem b_X8_way_20 {Γ : cr_C} {E : cr_E} (X : cr_X Γ E cX8_way 3 RX8 wsX8_way rm_X8_way (some .int)) (S : cr_S)  : cr_P Γ E 3 (cr_F Γ E (cr_vI S)) 0 0 S 20 ([]) ([]) (t_X8_way_20 S ) := by
  have hEK := X.2.2.2.2.2.2.1
  unfold t_X8_way_20
  exact cr_none
set_option maxHeartbeats 4000000 in
set_option maxRecDepth 100000 in
theorem c_X8_way (l : Launch) (E : cr_E) (hEK : cr_EK E) (S : cr_S) (p1 : Int32) (p2 : Int32) : cr_M l E yX8_way wsX8_way rm_X8_way [.ref (E.2.1 8 0), .int p1, .int p2] S (cr_vI S) (t_X8_way S p1 p2) := by
  refine cr_enter (cc := cX8_way) (nL := 3) (rt := (some .int)) hEK (by decide) rfl (Nat.le_of_ble_eq_true rfl) (fun Γ hΓ X => ?_)
  subst hΓ
  have X : cr_X Γ E cX8_way 3 RX8 wsX8_way rm_X8_way (some .int) := X
  unfold t_X8_way
  show cr_P Γ E 3 _ 0 0 S 0 ([(0, .ref (E.2.1 8 0)), (1, .int p1), (2, .int p2)]) [] _
  refine cr_iload_n X 1 rfl dX8_way_0 ?_
  refine cr_iconst X (0 : Int32) (by decide) dX8_way_1 ?_
  refine cr_bipush X (99 : Int32) (by decide) dX8_way_2 ?_
  refine cr_callS X (As := [.int p1, .int ((0 : Int32)), .int ((99 : Int32))]) (rest := []) (c_X8_isWithin Γ.2.1 E hEK S p1 ((0 : Int32)) ((99 : Int32))) 3 gX8_way_X8_isWithin rfl rfl rfl (by decide +kernel) ⟨Nat.le_of_ble_eq_true rfl, Nat.le_of_ble_eq_true rfl⟩ (by decide) rfl rfl (Nat.le_of_ble_eq_true rfl) dX8_way_4 (fun r4_1 => ?_)
  show cr_P Γ E 3 _ 0 0 S 7 ([(0, .ref (E.2.1 8 0)), (1, .int p1), (2, .int p2)]) ([.int (cr_b r4_1)]) _
  refine cr_ifb_eq X 20 dX8_way_7 rfl ?_ ?_
  · refine cr_sub (lv' := []) [] rfl ?_
    exact b_X8_way_20 X S 
  · refine cr_iload_n X 2 rfl dX8_way_10 ?_
    refine cr_iconst X (0 : Int32) (by decide) dX8_way_11 ?_
    refine cr_bipush X (99 : Int32) (by decide) dX8_way_12 ?_
    refine cr_callS X (As := [.int p2, .int ((0 : Int32)), .int ((99 : Int32))]) (rest := []) (c_X8_isWithin Γ.2.1 E hEK S p2 ((0 : Int32)) ((99 : Int32))) 3 gX8_way_X8_isWithin rfl rfl rfl (by decide +kernel) ⟨Nat.le_of_ble_eq_true rfl, Nat.le_of_ble_eq_true rfl⟩ (by decide) rfl rfl (Nat.le_of_ble_eq_true rfl) dX8_way_14 (fun r14_2 => ?_)
    show cr_P Γ E 3 _ 0 0 S 17 ([(0, .ref (E.2.1 8 0)), (1, .int p1), (2, .int p2)]) ([.int (cr_b r14_2)]) _
    refine cr_ifb_ne X 30 dX8_way_17 rfl ?_ ?_
    · refine cr_aload_n X 0 rfl dX8_way_30 ?_
      refine cr_get X ((cr_b0 E).at rfl rfl) rfl i_X8_way_X8 0 (by decide) k_X8_way_3 rfl dX8_way_31 ?_
      refine cr_iload_n X 1 rfl dX8_way_34 ?_
      refine cr_iload_n X 2 rfl dX8_way_35 ?_
      refine cr_callV X (As := [.int p1, .int p2]) (rest := []) (c_X2_hoursBetween_S Γ.2.1 E hEK S (show 0 < 8 by decide) p1 p2) ((cr_a0 E (show 0 < 8 by decide)).at rfl rfl) rfl 2 gX8_way_X2_hoursBetween rfl rfl rfl (by decide +kernel) ⟨Nat.le_of_ble_eq_true rfl, Nat.le_of_ble_eq_true rfl⟩ (by decide) rfl rfl (Nat.le_of_ble_eq_true rfl) dX8_way_36 (fun r36_3 => ?_)
      show cr_P Γ E 3 _ 0 0 S 39 ([(0, .ref (E.2.1 8 0)), (1, .int p1), (2, .int p2)]) ([.int r36_3]) _
      exact cr_iret X rfl rfl dX8_way_39
    · refine cr_sub (lv' := []) [] rfl ?_
      exact b_X8_way_20 X S 
theorem k_X8_window_3 : (Cond.fieldLink RX8 10 "CraneCampaign" "farm" "LCraneCampaign$Farm;") ∈ wsX8_window := List.mem_of_getElem? (i := 3) (by rfl)
theorem i_X8_window_X8 : ∀ w ∈ wsX80, w ∈ wsX8_window := by decide +kernel
abbrev rm_X8_window : Room := { frames := 2, cells := 0, slots := 0, locals := 46 }
set_option maxHeartbeats 4000000 in
set_option maxRecDepth 100000 in
theorem c_X8_window (l : Launch) (E : cr_E) (hEK : cr_EK E) (S : cr_S) (p1 : Int32) (p2 : Int32) : cr_M l E yX8_window wsX8_window rm_X8_window [.ref (E.2.1 8 0), .int p1, .int p2] S (cr_vI S) (t_X8_window S p1 p2) := by
  refine cr_enter (cc := cX8_window) (nL := 3) (rt := (some .int)) hEK (by decide) rfl (Nat.le_of_ble_eq_true rfl) (fun Γ hΓ X => ?_)
  subst hΓ
  have X : cr_X Γ E cX8_window 3 RX8 wsX8_window rm_X8_window (some .int) := X
  unfold t_X8_window
  show cr_P Γ E 3 _ 0 0 S 0 ([(0, .ref (E.2.1 8 0)), (1, .int p1), (2, .int p2)]) [] _
  refine cr_aload_n X 0 rfl dX8_window_0 ?_
  refine cr_iload_n X 1 rfl dX8_window_1 ?_
  refine cr_callV X (As := [.int p1]) (rest := []) (c_X8_requireTurbine Γ.2.1 E hEK S p1) ((cr_b0 E).at rfl rfl) rfl 1 gX8_window_X8_requireTurbine rfl rfl rfl (by decide +kernel) ⟨Nat.le_of_ble_eq_true rfl, Nat.le_of_ble_eq_true rfl⟩ (by decide) rfl rfl (Nat.le_of_ble_eq_true rfl) dX8_window_2 (fun r2_1 => ?_)
  show cr_P Γ E 3 _ 0 0 S 5 ([(0, .ref (E.2.1 8 0)), (1, .int p1), (2, .int p2)]) ([]) _
  refine cr_iload_n X 2 rfl dX8_window_5 ?_
  refine cr_iconst X (1 : Int32) (by decide) dX8_window_6 ?_
  refine cr_bipush X (24 : Int32) (by decide) dX8_window_7 ?_
  refine cr_callS X (As := [.int p2, .int ((1 : Int32)), .int ((24 : Int32))]) (rest := []) (c_X8_isWithin Γ.2.1 E hEK S p2 ((1 : Int32)) ((24 : Int32))) 3 gX8_window_X8_isWithin rfl rfl rfl (by decide +kernel) ⟨Nat.le_of_ble_eq_true rfl, Nat.le_of_ble_eq_true rfl⟩ (by decide) rfl rfl (Nat.le_of_ble_eq_true rfl) dX8_window_9 (fun r9_2 => ?_)
  show cr_P Γ E 3 _ 0 0 S 12 ([(0, .ref (E.2.1 8 0)), (1, .int p1), (2, .int p2)]) ([.int (cr_b r9_2)]) _
  refine cr_ifb_ne X 26 dX8_window_12 rfl ?_ ?_
  · refine cr_aload_n X 0 rfl dX8_window_26 ?_
    refine cr_get X ((cr_b0 E).at rfl rfl) rfl i_X8_window_X8 0 (by decide) k_X8_window_3 rfl dX8_window_27 ?_
    refine cr_iload_n X 1 rfl dX8_window_30 ?_
    refine cr_iload_n X 2 rfl dX8_window_31 ?_
    refine cr_callV X (As := [.int p1, .int p2]) (rest := []) (c_X2_hoursUntilCalm_S Γ.2.1 E hEK S (show 0 < 8 by decide) p1 p2) ((cr_a0 E (show 0 < 8 by decide)).at rfl rfl) rfl 2 gX8_window_X2_hoursUntilCalm rfl rfl rfl (by decide +kernel) ⟨Nat.le_of_ble_eq_true rfl, Nat.le_of_ble_eq_true rfl⟩ (by decide) rfl rfl (Nat.le_of_ble_eq_true rfl) dX8_window_32 (fun r32_3 => ?_)
    show cr_P Γ E 3 _ 0 0 S 35 ([(0, .ref (E.2.1 8 0)), (1, .int p1), (2, .int p2)]) ([.int r32_3]) _
    exact cr_iret X rfl rfl dX8_window_35
  · exact cr_none
