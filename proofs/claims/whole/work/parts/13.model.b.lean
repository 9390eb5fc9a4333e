theorem k_X9_doneNow_1 : (Cond.fieldLink RX9 7 "CraneCampaignModel" "z" "[I") ∈ wsX9_doneNow := List.mem_of_getElem? (i := 1) (by rfl)
theorem i_X9_doneNow_X9 : ∀ w ∈ wsX90, w ∈ wsX9_doneNow := by decide +kernel
abbrev rm_X9_doneNow : Room := { frames := 3, cells := 0, slots := 0, locals := 78 }
set_option maxHeartbeats 4000000 in
set_option maxRecDepth 100000 in
theorem b_X9_doneNow_35 {Γ : cr_C} {E : cr_E} (X : cr_X Γ E cX9_doneNow 2 RX9 wsX9_doneNow rm_X9_doneNow (some .int)) (S0 : cr_S) (x1 : Int32) (G : cr_G) : cr_P Γ E 2 (cr_F Γ E (cr_vIG S0 9)) 0 0 (cr_us S0 9 G) 35 ([(0, .ref (E.2.1 9 0)), (1, .int x1)]) ([]) (s_X9_doneNow_35 x1 G) := by
  have hEK := X.2.2.2.2.2.2.1
  unfold s_X9_doneNow_35
  refine cr_aload_n X 0 rfl dX9_doneNow_35 ?_
  refine cr_callV X (As := []) (rest := []) (c_X9_bring Γ.2.1 E hEK S0 G) ((cr_m0 E).at (cr_row S0 9 G 0) rfl) rfl 0 gX9_doneNow_X9_bring rfl rfl rfl (by decide +kernel) ⟨Nat.le_of_ble_eq_true rfl, Nat.le_of_ble_eq_true rfl⟩ (by decide) rfl rfl (Nat.le_of_ble_eq_true rfl) dX9_doneNow_36 (fun r36_4 => ?_)
  show cr_P Γ E 2 _ 0 0 (cr_us S0 9 r36_4) 39 ([(0, .ref (E.2.1 9 0)), (1, .int x1)]) ([]) _
  refine cr_iload_n X 1 rfl dX9_doneNow_39 ?_
  refine cr_sipush X (500 : Int32) (by decide) dX9_doneNow_40 ?_
  refine cr_icmp_le X 50 dX9_doneNow_43 rfl ?_ ?_
  · refine cr_iload_n X 1 rfl dX9_doneNow_50 ?_
    exact cr_iret X rfl rfl dX9_doneNow_51
  · refine cr_iconst X (-1 : Int32) (by decide) dX9_doneNow_46 ?_
    refine cr_goto X 51 dX9_doneNow_47 rfl ?_
    exact cr_iret X rfl rfl dX9_doneNow_51
set_option maxHeartbeats 4000000 in
set_option maxRecDepth 100000 in
theorem b_X9_doneNow_6 {Γ : cr_C} {E : cr_E} (X : cr_X Γ E cX9_doneNow 2 RX9 wsX9_doneNow rm_X9_doneNow (some .int)) (S0 : cr_S) : ∀ (n : Nat) (x1 : Int32) (G : cr_G), cr_P Γ E 2 (cr_F Γ E (cr_vIG S0 9)) 0 0 (cr_us S0 9 G) 6 ([(0, .ref (E.2.1 9 0)), (1, .int x1)]) ([]) (s_X9_doneNow_6 n x1 G) := by
  have hEK := X.2.2.2.2.2.2.1
  intro n
  induction n with
  | zero => intro x1 G; exact cr_none
  | succ n ih =>
    intro x1 G
    rw [s_X9_doneNow_6]
    refine cr_iload_n X 1 rfl dX9_doneNow_6 ?_
    refine cr_sipush X (501 : Int32) (by decide) dX9_doneNow_7 ?_
    refine cr_icmp_ge X 35 dX9_doneNow_10 rfl ?_ ?_
    · refine cr_sub (lv' := [(0, .ref (E.2.1 9 0)), (1, .int x1)]) [0, 1] rfl ?_
      exact b_X9_doneNow_35 X S0 x1 G
    · refine cr_aload_n X 0 rfl dX9_doneNow_13 ?_
      refine cr_get X ((cr_m0 E).at (cr_row S0 9 G 0) rfl) rfl i_X9_doneNow_X9 0 (by decide) k_X9_doneNow_1 rfl dX9_doneNow_14 ?_
      refine cr_sipush X (145 : Int32) (by decide) dX9_doneNow_17 ?_
      refine cr_ialdk X 145 (by decide) (by decide) ((cr_m1 E).at (cr_row S0 9 G 1) rfl) dX9_doneNow_20 ?_
      refine cr_if_le X 35 dX9_doneNow_21 rfl ?_ ?_
      · refine cr_sub (lv' := [(0, .ref (E.2.1 9 0)), (1, .int x1)]) [0, 1] rfl ?_
        exact b_X9_doneNow_35 X S0 x1 G
      · refine cr_aload_n X 0 rfl dX9_doneNow_24 ?_
        refine cr_callV X (As := []) (rest := []) (c_X9_goHour Γ.2.1 E hEK S0 G) ((cr_m0 E).at (cr_row S0 9 G 0) rfl) rfl 0 gX9_doneNow_X9_goHour rfl rfl rfl (by decide +kernel) ⟨Nat.le_of_ble_eq_true rfl, Nat.le_of_ble_eq_true rfl⟩ (by decide) rfl rfl (Nat.le_of_ble_eq_true rfl) dX9_doneNow_25 (fun r25_2 => ?_)
        show cr_P Γ E 2 _ 0 0 (cr_us S0 9 r25_2.2) 28 ([(0, .ref (E.2.1 9 0)), (1, .int x1)]) ([.int r25_2.1]) _
        refine cr_pop X rfl dX9_doneNow_28 ?_
        refine cr_iinc X (x1 + 1) (fun v29_3 => [(1, .int v29_3), (0, .ref (E.2.1 9 0))]) 1 rfl rfl (fun _ => rfl) (by decide) dX9_doneNow_29 (fun v29_3 => ?_)
        refine cr_goto X 6 dX9_doneNow_32 rfl ?_
        refine cr_sub (lv' := [(0, .ref (E.2.1 9 0)), (1, .int v29_3)]) [1, 0] rfl ?_
        exact ih v29_3 r25_2.2
set_option maxHeartbeats 4000000 in
set_option maxRecDepth 100000 in
theorem c_X9_doneNow (l : Launch) (E : cr_E) (hEK : cr_EK E) (S0 : cr_S) (G : cr_G) : cr_M l E yX9_doneNow wsX9_doneNow rm_X9_doneNow [.ref (E.2.1 9 0)] (cr_us S0 9 G) (cr_vIG S0 9) (s_X9_doneNow G) := by
  refine cr_enter (cc := cX9_doneNow) (nL := 2) (rt := (some .int)) hEK (by decide) rfl (Nat.le_of_ble_eq_true rfl) (fun Γ hΓ X => ?_)
  subst hΓ
  have X : cr_X Γ E cX9_doneNow 2 RX9 wsX9_doneNow rm_X9_doneNow (some .int) := X
  unfold s_X9_doneNow
  show cr_P Γ E 2 _ 0 0 (cr_us S0 9 G) 0 ([(0, .ref (E.2.1 9 0))]) [] _
  refine cr_aload_n X 0 rfl dX9_doneNow_0 ?_
  refine cr_callV X (As := []) (rest := []) (c_X9_keep Γ.2.1 E hEK S0 G) ((cr_m0 E).at (cr_row S0 9 G 0) rfl) rfl 0 gX9_doneNow_X9_keep rfl rfl rfl (by decide +kernel) ⟨Nat.le_of_ble_eq_true rfl, Nat.le_of_ble_eq_true rfl⟩ (by decide) rfl rfl (Nat.le_of_ble_eq_true rfl) dX9_doneNow_1 (fun r1_1 => ?_)
  show cr_P Γ E 2 _ 0 0 (cr_us S0 9 r1_1) 4 ([(0, .ref (E.2.1 9 0))]) ([]) _
  refine cr_iconst X (0 : Int32) (by decide) dX9_doneNow_4 ?_
  refine cr_istore_n X ([(1, .int ((0 : Int32))), (0, .ref (E.2.1 9 0))]) rfl (by decide) dX9_doneNow_5 ?_
  refine cr_sub (lv' := [(0, .ref (E.2.1 9 0)), (1, .int ((0 : Int32)))]) [1, 0] rfl ?_
  exact b_X9_doneNow_6 X S0 1200 ((0 : Int32)) r1_1
theorem c_X9_doneNow_S (l : Launch) (E : cr_E) (hEK : cr_EK E) (S : cr_S) : cr_M l E yX9_doneNow wsX9_doneNow rm_X9_doneNow [.ref (E.2.1 9 0)] S (cr_vIG S 9) (s_X9_doneNow   (S.1 9)) := by
  have h := c_X9_doneNow l E hEK S (S.1 9)
  rw [cr_us_self] at h
  exact h
theorem k_X9_meanNow_1 : (Cond.fieldLink RX9 7 "CraneCampaignModel" "z" "[I") ∈ wsX9_meanNow := List.mem_of_getElem? (i := 1) (by rfl)
theorem k_X9_meanNow_2 : (Cond.constantFloat RX9 177 (1090519040)) ∈ wsX9_meanNow := List.mem_of_getElem? (i := 2) (by rfl)
theorem i_X9_meanNow_X9 : ∀ w ∈ wsX90, w ∈ wsX9_meanNow := by decide +kernel
abbrev rm_X9_meanNow : Room := { frames := 0, cells := 0, slots := 0, locals := 0 }
set_option maxHeartbeats 4000000 in
set_option maxRecDepth 100000 in
theorem b_X9_meanNow_4 {Γ : cr_C} {E : cr_E} (X : cr_X Γ E cX9_meanNow 3 RX9 wsX9_meanNow rm_X9_meanNow (some .float)) (S0 : cr_S) (G : cr_G) : ∀ (n : Nat) (x1 : Int32) (x2 : Int32), cr_P Γ E 3 (cr_F Γ E (cr_vF (cr_us S0 9 G))) 0 0 (cr_us S0 9 G) 4 ([(0, .ref (E.2.1 9 0)), (1, .int x1), (2, .int x2)]) ([]) (s_X9_meanNow_4 G n x1 x2) := by
  have hEK := X.2.2.2.2.2.2.1
  intro n
  induction n with
  | zero => intro x1 x2; exact cr_none
  | succ n ih =>
    intro x1 x2
    rw [s_X9_meanNow_4]
    refine cr_iload_n X 2 rfl dX9_meanNow_4 ?_
    refine cr_aload_n X 0 rfl dX9_meanNow_5 ?_
    refine cr_get X ((cr_m0 E).at (cr_row S0 9 G 0) rfl) rfl i_X9_meanNow_X9 0 (by decide) k_X9_meanNow_1 rfl dX9_meanNow_6 ?_
    refine cr_bipush X (78 : Int32) (by decide) dX9_meanNow_9 ?_
    refine cr_ialdk X 78 (by decide) (by decide) ((cr_m1 E).at (cr_row S0 9 G 1) rfl) dX9_meanNow_11 ?_
    refine cr_icmp_ge X 33 dX9_meanNow_12 rfl ?_ ?_
    · refine cr_aload_n X 0 rfl dX9_meanNow_33 ?_
      refine cr_get X ((cr_m0 E).at (cr_row S0 9 G 0) rfl) rfl i_X9_meanNow_X9 0 (by decide) k_X9_meanNow_1 rfl dX9_meanNow_34 ?_
      refine cr_bipush X (78 : Int32) (by decide) dX9_meanNow_37 ?_
      refine cr_ialdk X 78 (by decide) (by decide) ((cr_m1 E).at (cr_row S0 9 G 1) rfl) dX9_meanNow_39 ?_
      refine cr_if_ne X 48 dX9_meanNow_40 rfl ?_ ?_
      · refine cr_iload_n X 1 rfl dX9_meanNow_48 ?_
        refine cr_i2f X dX9_meanNow_49 ?_
        refine cr_aload_n X 0 rfl dX9_meanNow_50 ?_
        refine cr_get X ((cr_m0 E).at (cr_row S0 9 G 0) rfl) rfl i_X9_meanNow_X9 0 (by decide) k_X9_meanNow_1 rfl dX9_meanNow_51 ?_
        refine cr_bipush X (78 : Int32) (by decide) dX9_meanNow_54 ?_
        refine cr_ialdk X 78 (by decide) (by decide) ((cr_m1 E).at (cr_row S0 9 G 1) rfl) dX9_meanNow_56 ?_
        refine cr_i2f X dX9_meanNow_57 ?_
        refine cr_fdiv X dX9_meanNow_58 ?_
        exact cr_fret X rfl rfl dX9_meanNow_59
      · refine cr_ldcf X k_X9_meanNow_2 dX9_meanNow_43 ?_
        refine cr_goto X 59 dX9_meanNow_45 rfl ?_
        exact cr_fret X rfl rfl dX9_meanNow_59
    · refine cr_iload_n X 1 rfl dX9_meanNow_15 ?_
      refine cr_aload_n X 0 rfl dX9_meanNow_16 ?_
      refine cr_get X ((cr_m0 E).at (cr_row S0 9 G 0) rfl) rfl i_X9_meanNow_X9 0 (by decide) k_X9_meanNow_1 rfl dX9_meanNow_17 ?_
      refine cr_bipush X (79 : Int32) (by decide) dX9_meanNow_20 ?_
      refine cr_iload_n X 2 rfl dX9_meanNow_22 ?_
      refine cr_iadd X dX9_meanNow_23 ?_
      refine cr_iald X ((cr_m1 E).at (cr_row S0 9 G 1) rfl) dX9_meanNow_24 ?_
      refine cr_iadd X dX9_meanNow_25 ?_
      refine cr_istore_nb X (fun v26_1 => [(1, .int v26_1), (0, .ref (E.2.1 9 0)), (2, .int x2)]) (fun _ => rfl) (by decide) dX9_meanNow_26 (fun v26_1 => ?_)
      refine cr_iinc X (x2 + 1) (fun v27_2 => [(2, .int v27_2), (1, .int v26_1), (0, .ref (E.2.1 9 0))]) 2 rfl rfl (fun _ => rfl) (by decide) dX9_meanNow_27 (fun v27_2 => ?_)
      refine cr_goto X 4 dX9_meanNow_30 rfl ?_
      refine cr_sub (lv' := [(0, .ref (E.2.1 9 0)), (1, .int v26_1), (2, .int v27_2)]) [2, 1, 0] rfl ?_
      exact ih v26_1 v27_2
set_option maxHeartbeats 4000000 in
set_option maxRecDepth 100000 in
theorem c_X9_meanNow (l : Launch) (E : cr_E) (hEK : cr_EK E) (S0 : cr_S) (G : cr_G) : cr_M l E yX9_meanNow wsX9_meanNow rm_X9_meanNow [.ref (E.2.1 9 0)] (cr_us S0 9 G) (cr_vF (cr_us S0 9 G)) (s_X9_meanNow G) := by
  refine cr_enter (cc := cX9_meanNow) (nL := 3) (rt := (some .float)) hEK (by decide) rfl (Nat.le_of_ble_eq_true rfl) (fun Γ hΓ X => ?_)
  subst hΓ
  have X : cr_X Γ E cX9_meanNow 3 RX9 wsX9_meanNow rm_X9_meanNow (some .float) := X
  unfold s_X9_meanNow
  show cr_P Γ E 3 _ 0 0 (cr_us S0 9 G) 0 ([(0, .ref (E.2.1 9 0))]) [] _
  refine cr_iconst X (0 : Int32) (by decide) dX9_meanNow_0 ?_
  refine cr_istore_n X ([(1, .int ((0 : Int32))), (0, .ref (E.2.1 9 0))]) rfl (by decide) dX9_meanNow_1 ?_
  refine cr_iconst X (0 : Int32) (by decide) dX9_meanNow_2 ?_
  refine cr_istore_n X ([(2, .int ((0 : Int32))), (1, .int ((0 : Int32))), (0, .ref (E.2.1 9 0))]) rfl (by decide) dX9_meanNow_3 ?_
  refine cr_sub (lv' := [(0, .ref (E.2.1 9 0)), (1, .int ((0 : Int32))), (2, .int ((0 : Int32)))]) [2, 1, 0] rfl ?_
  exact b_X9_meanNow_4 X S0 G 1200 ((0 : Int32)) ((0 : Int32))
theorem c_X9_meanNow_S (l : Launch) (E : cr_E) (hEK : cr_EK E) (S : cr_S) : cr_M l E yX9_meanNow wsX9_meanNow rm_X9_meanNow [.ref (E.2.1 9 0)] S (cr_vF S) (s_X9_meanNow (S.1 9)) := by
  have h := c_X9_meanNow l E hEK S (S.1 9)
  rw [cr_us_self] at h
  exact h
abbrev rm_Jxf58ca_isNaN_12338 : Room := { frames := 0, cells := 0, slots := 0, locals := 0 }
set_option maxHeartbeats 4000000 in
set_option maxRecDepth 100000 in
theorem c_Jxf58ca_isNaN_12338 (l : Launch) (E : cr_E) (hEK : cr_EK E) (S : cr_S) (p0 : UInt32) : cr_M l E yJxf58ca_isNaN_12338 wsJxf58ca_isNaN_12338 rm_Jxf58ca_isNaN_12338 [.float p0] S (cr_vB S) (s_Jxf58ca_isNaN_12338 p0) := by
  refine cr_enterF (cc := cJxf58ca_isNaN_12338) (nL := 1) (rt := (some .boolean)) hEK (by decide +kernel) rfl (Nat.le_of_ble_eq_true rfl) (fun Γ hΓ X => ?_)
  subst hΓ
  have X : cr_X Γ E cJxf58ca_isNaN_12338 1 RJxf58ca wsJxf58ca_isNaN_12338 rm_Jxf58ca_isNaN_12338 (some .boolean) := X
  unfold s_Jxf58ca_isNaN_12338
  show cr_P Γ E 1 _ 0 0 S 0 ([(0, .float p0)]) [] _
  refine cr_fload_n X 0 rfl dJxf58ca_isNaN_12338_0 ?_
  refine cr_fload_n X 0 rfl dJxf58ca_isNaN_12338_1 ?_
  refine cr_fcmp X dJxf58ca_isNaN_12338_2 ?_
  refine cr_if_eq X 10 dJxf58ca_isNaN_12338_3 rfl ?_ ?_
  · refine cr_iconst X (0 : Int32) (by decide) dJxf58ca_isNaN_12338_10 ?_
    exact cr_zret X false rfl rfl rfl dJxf58ca_isNaN_12338_11
  · refine cr_iconst X (1 : Int32) (by decide) dJxf58ca_isNaN_12338_6 ?_
    refine cr_goto X 11 dJxf58ca_isNaN_12338_7 rfl ?_
    exact cr_zret X true rfl rfl rfl dJxf58ca_isNaN_12338_11
theorem k_Jxf58ca_floatToIntBits_5c35a_1 : (Cond.methodLink RJxf58ca 74 ⟨"java/lang/Float", "floatToRawIntBits", "(F)I"⟩) ∈ wsJxf58ca_floatToIntBits_5c35a := List.mem_of_getElem? (i := 1) (by rfl)
theorem k_Jxf58ca_floatToIntBits_5c35a_2 : (Cond.native ⟨"java/lang/Float", "floatToRawIntBits", "(F)I"⟩) ∈ wsJxf58ca_floatToIntBits_5c35a := List.mem_of_getElem? (i := 2) (by rfl)
theorem k_Jxf58ca_floatToIntBits_5c35a_3 : (Cond.static ⟨"java/lang/Float", "floatToRawIntBits", "(F)I"⟩) ∈ wsJxf58ca_floatToIntBits_5c35a := List.mem_of_getElem? (i := 3) (by rfl)
theorem k_Jxf58ca_floatToIntBits_5c35a_4 : (Cond.initialized "java/lang/Float") ∈ wsJxf58ca_floatToIntBits_5c35a := List.mem_of_getElem? (i := 4) (by rfl)
theorem k_Jxf58ca_floatToIntBits_5c35a_5 : (Cond.constant RJxf58ca 77 (2143289344)) ∈ wsJxf58ca_floatToIntBits_5c35a := List.mem_of_getElem? (i := 5) (by rfl)
abbrev rm_Jxf58ca_floatToIntBits_5c35a : Room := { frames := 1, cells := 0, slots := 0, locals := 24 }
set_option maxHeartbeats 4000000 in
set_option maxRecDepth 100000 in
theorem c_Jxf58ca_floatToIntBits_5c35a (l : Launch) (E : cr_E) (hEK : cr_EK E) (S : cr_S) (p0 : UInt32) : cr_M l E yJxf58ca_floatToIntBits_5c35a wsJxf58ca_floatToIntBits_5c35a rm_Jxf58ca_floatToIntBits_5c35a [.float p0] S (cr_vI S) (s_Jxf58ca_floatToIntBits_5c35a p0) := by
  refine cr_enterF (cc := cJxf58ca_floatToIntBits_5c35a) (nL := 1) (rt := (some .int)) hEK (by decide +kernel) rfl (Nat.le_of_ble_eq_true rfl) (fun Γ hΓ X => ?_)
  subst hΓ
  have X : cr_X Γ E cJxf58ca_floatToIntBits_5c35a 1 RJxf58ca wsJxf58ca_floatToIntBits_5c35a rm_Jxf58ca_floatToIntBits_5c35a (some .int) := X
  unfold s_Jxf58ca_floatToIntBits_5c35a
  show cr_P Γ E 1 _ 0 0 S 0 ([(0, .float p0)]) [] _
  refine cr_fload_n X 0 rfl dJxf58ca_floatToIntBits_5c35a_0 ?_
  refine cr_callS X (As := [.float p0]) (rest := []) (c_Jxf58ca_isNaN_12338 Γ.2.1 E hEK S p0) 1 gJxf58ca_floatToIntBits_5c35a_Jxf58ca_isNaN_12338 rfl rfl rfl (by decide +kernel) ⟨Nat.le_of_ble_eq_true rfl, Nat.le_of_ble_eq_true rfl⟩ (by decide) rfl rfl (Nat.le_of_ble_eq_true rfl) dJxf58ca_floatToIntBits_5c35a_1 (fun r1_1 => ?_)
  show cr_P Γ E 1 _ 0 0 S 4 ([(0, .float p0)]) ([.int (cr_b r1_1)]) _
  refine cr_ifb_ne X 12 dJxf58ca_floatToIntBits_5c35a_4 rfl ?_ ?_
  · refine cr_ldc X k_Jxf58ca_floatToIntBits_5c35a_5 dJxf58ca_floatToIntBits_5c35a_12 ?_
    exact cr_iret X rfl rfl dJxf58ca_floatToIntBits_5c35a_14
  · refine cr_fload_n X 0 rfl dJxf58ca_floatToIntBits_5c35a_7 ?_
    refine cr_rawf X k_Jxf58ca_floatToIntBits_5c35a_1 k_Jxf58ca_floatToIntBits_5c35a_2 k_Jxf58ca_floatToIntBits_5c35a_3 k_Jxf58ca_floatToIntBits_5c35a_4 (by decide) (Nat.le_of_ble_eq_true rfl) dJxf58ca_floatToIntBits_5c35a_8 ?_
    exact cr_iret X rfl rfl dJxf58ca_floatToIntBits_5c35a_11
abbrev rm_X9_shareNow : Room := { frames := 1, cells := 0, slots := 0, locals := 23 }
set_option maxHeartbeats 4000000 in
set_option maxRecDepth 100000 in
theorem c_X9_shareNow (l : Launch) (E : cr_E) (hEK : cr_EK E) (S0 : cr_S) (G : cr_G) : cr_M l E yX9_shareNow wsX9_shareNow rm_X9_shareNow [.ref (E.2.1 9 0)] (cr_us S0 9 G) (cr_vD (cr_us S0 9 G)) (s_X9_shareNow G) := by
  refine cr_enter (cc := cX9_shareNow) (nL := 3) (rt := (some .double)) hEK (by decide) rfl (Nat.le_of_ble_eq_true rfl) (fun Γ hΓ X => ?_)
  subst hΓ
  have X : cr_X Γ E cX9_shareNow 3 RX9 wsX9_shareNow rm_X9_shareNow (some .double) := X
  unfold s_X9_shareNow
  show cr_P Γ E 3 _ 0 0 (cr_us S0 9 G) 0 ([(0, .ref (E.2.1 9 0))]) [] _
  refine cr_aload_n X 0 rfl dX9_shareNow_0 ?_
  refine cr_bipush X (50 : Int32) (by decide) dX9_shareNow_1 ?_
  refine cr_callV X (As := [.int ((50 : Int32))]) (rest := []) (c_X9_sum Γ.2.1 E hEK S0 G ((50 : Int32))) ((cr_m0 E).at (cr_row S0 9 G 0) rfl) rfl 1 gX9_shareNow_X9_sum rfl rfl rfl (by decide +kernel) ⟨Nat.le_of_ble_eq_true rfl, Nat.le_of_ble_eq_true rfl⟩ (by decide) rfl rfl (Nat.le_of_ble_eq_true rfl) dX9_shareNow_3 (fun r3_1 => ?_)
  show cr_P Γ E 3 _ 0 0 (cr_us S0 9 G) 6 ([(0, .ref (E.2.1 9 0))]) ([.int r3_1]) _
  refine cr_istore_n X ([(1, .int r3_1), (0, .ref (E.2.1 9 0))]) rfl (by decide) dX9_shareNow_6 ?_
  refine cr_aload_n X 1 rfl dX9_shareNow_7 ?_
  refine cr_bipush X (60 : Int32) (by decide) dX9_shareNow_8 ?_
  refine cr_callV X (As := [.int ((60 : Int32))]) (rest := []) (c_X9_sum Γ.2.1 E hEK S0 G ((60 : Int32))) ((cr_m0 E).at (cr_row S0 9 G 0) rfl) rfl 1 gX9_shareNow_X9_sum rfl rfl rfl (by decide +kernel) ⟨Nat.le_of_ble_eq_true rfl, Nat.le_of_ble_eq_true rfl⟩ (by decide) rfl rfl (Nat.le_of_ble_eq_true rfl) dX9_shareNow_10 (fun r10_2 => ?_)
  show cr_P Γ E 3 _ 0 0 (cr_us S0 9 G) 13 ([(1, .int r3_1), (0, .ref (E.2.1 9 0))]) ([.int r10_2]) _
  refine cr_istore_n X ([(2, .int r10_2), (1, .int r3_1), (0, .ref (E.2.1 9 0))]) rfl (by decide) dX9_shareNow_13 ?_
  refine cr_iload_n X 1 rfl dX9_shareNow_14 ?_
  refine cr_iload_n X 0 rfl dX9_shareNow_15 ?_
  refine cr_iadd X dX9_shareNow_16 ?_
  refine cr_if_ne X 24 dX9_shareNow_17 rfl ?_ ?_
  · refine cr_iload_n X 1 rfl dX9_shareNow_24 ?_
    refine cr_i2d X dX9_shareNow_25 ?_
    refine cr_iload_n X 1 rfl dX9_shareNow_26 ?_
    refine cr_iload_n X 0 rfl dX9_shareNow_27 ?_
    refine cr_iadd X dX9_shareNow_28 ?_
    refine cr_i2d X dX9_shareNow_29 ?_
    refine cr_ddiv X dX9_shareNow_30 ?_
    exact cr_dret X rfl rfl dX9_shareNow_31
  · refine cr_dconst0 X dX9_shareNow_20 ?_
    refine cr_goto X 31 dX9_shareNow_21 rfl ?_
    exact cr_dret X rfl rfl dX9_shareNow_31
theorem c_X9_shareNow_S (l : Launch) (E : cr_E) (hEK : cr_EK E) (S : cr_S) : cr_M l E yX9_shareNow wsX9_shareNow rm_X9_shareNow [.ref (E.2.1 9 0)] S (cr_vD S) (s_X9_shareNow (S.1 9)) := by
  have h := c_X9_shareNow l E hEK S (S.1 9)
  rw [cr_us_self] at h
  exact h
abbrev rm_Jxe99ae_isNaN_b9ae7 : Room := { frames := 0, cells := 0, slots := 0, locals := 0 }
set_option maxHeartbeats 4000000 in
set_option maxRecDepth 100000 in
theorem c_Jxe99ae_isNaN_b9ae7 (l : Launch) (E : cr_E) (hEK : cr_EK E) (S : cr_S) (p0 : UInt64) : cr_M l E yJxe99ae_isNaN_b9ae7 wsJxe99ae_isNaN_b9ae7 rm_Jxe99ae_isNaN_b9ae7 [.double p0] S (cr_vB S) (s_Jxe99ae_isNaN_b9ae7 p0) := by
  refine cr_enterF (cc := cJxe99ae_isNaN_b9ae7) (nL := 2) (rt := (some .boolean)) hEK (by decide +kernel) rfl (Nat.le_of_ble_eq_true rfl) (fun Γ hΓ X => ?_)
  subst hΓ
  have X : cr_X Γ E cJxe99ae_isNaN_b9ae7 2 RJxe99ae wsJxe99ae_isNaN_b9ae7 rm_Jxe99ae_isNaN_b9ae7 (some .boolean) := X
  unfold s_Jxe99ae_isNaN_b9ae7
  show cr_P Γ E 2 _ 0 0 S 0 ([(0, .double p0)]) [] _
  refine cr_dload_n X 0 rfl dJxe99ae_isNaN_b9ae7_0 ?_
  refine cr_dload_n X 0 rfl dJxe99ae_isNaN_b9ae7_1 ?_
  refine cr_dcmp X dJxe99ae_isNaN_b9ae7_2 ?_
  refine cr_if_eq X 10 dJxe99ae_isNaN_b9ae7_3 rfl ?_ ?_
  · refine cr_iconst X (0 : Int32) (by decide) dJxe99ae_isNaN_b9ae7_10 ?_
    exact cr_zret X false rfl rfl rfl dJxe99ae_isNaN_b9ae7_11
  · refine cr_iconst X (1 : Int32) (by decide) dJxe99ae_isNaN_b9ae7_6 ?_
    refine cr_goto X 11 dJxe99ae_isNaN_b9ae7_7 rfl ?_
    exact cr_zret X true rfl rfl rfl dJxe99ae_isNaN_b9ae7_11
theorem k_Jxe99ae_doubleToLongBits_ccdee_1 : (Cond.methodLink RJxe99ae 134 ⟨"java/lang/Double", "doubleToRawLongBits", "(D)J"⟩) ∈ wsJxe99ae_doubleToLongBits_ccdee := List.mem_of_getElem? (i := 1) (by rfl)
theorem k_Jxe99ae_doubleToLongBits_ccdee_2 : (Cond.native ⟨"java/lang/Double", "doubleToRawLongBits", "(D)J"⟩) ∈ wsJxe99ae_doubleToLongBits_ccdee := List.mem_of_getElem? (i := 2) (by rfl)
theorem k_Jxe99ae_doubleToLongBits_ccdee_3 : (Cond.static ⟨"java/lang/Double", "doubleToRawLongBits", "(D)J"⟩) ∈ wsJxe99ae_doubleToLongBits_ccdee := List.mem_of_getElem? (i := 3) (by rfl)
theorem k_Jxe99ae_doubleToLongBits_ccdee_4 : (Cond.initialized "java/lang/Double") ∈ wsJxe99ae_doubleToLongBits_ccdee := List.mem_of_getElem? (i := 4) (by rfl)
theorem k_Jxe99ae_doubleToLongBits_ccdee_5 : (Cond.constantLong RJxe99ae 137 (9221120237041090560)) ∈ wsJxe99ae_doubleToLongBits_ccdee := List.mem_of_getElem? (i := 5) (by rfl)
abbrev rm_Jxe99ae_doubleToLongBits_ccdee : Room := { frames := 1, cells := 0, slots := 0, locals := 24 }
set_option maxHeartbeats 4000000 in
set_option maxRecDepth 100000 in
theorem c_Jxe99ae_doubleToLongBits_ccdee (l : Launch) (E : cr_E) (hEK : cr_EK E) (S : cr_S) (p0 : UInt64) : cr_M l E yJxe99ae_doubleToLongBits_ccdee wsJxe99ae_doubleToLongBits_ccdee rm_Jxe99ae_doubleToLongBits_ccdee [.double p0] S (cr_vL S) (s_Jxe99ae_doubleToLongBits_ccdee p0) := by
  refine cr_enterF (cc := cJxe99ae_doubleToLongBits_ccdee) (nL := 2) (rt := (some .long)) hEK (by decide +kernel) rfl (Nat.le_of_ble_eq_true rfl) (fun Γ hΓ X => ?_)
  subst hΓ
  have X : cr_X Γ E cJxe99ae_doubleToLongBits_ccdee 2 RJxe99ae wsJxe99ae_doubleToLongBits_ccdee rm_Jxe99ae_doubleToLongBits_ccdee (some .long) := X
  unfold s_Jxe99ae_doubleToLongBits_ccdee
  show cr_P Γ E 2 _ 0 0 S 0 ([(0, .double p0)]) [] _
  refine cr_dload_n X 0 rfl dJxe99ae_doubleToLongBits_ccdee_0 ?_
  refine cr_callS X (As := [.double p0]) (rest := []) (c_Jxe99ae_isNaN_b9ae7 Γ.2.1 E hEK S p0) 1 gJxe99ae_doubleToLongBits_ccdee_Jxe99ae_isNaN_b9ae7 rfl rfl rfl (by decide +kernel) ⟨Nat.le_of_ble_eq_true rfl, Nat.le_of_ble_eq_true rfl⟩ (by decide) rfl rfl (Nat.le_of_ble_eq_true rfl) dJxe99ae_doubleToLongBits_ccdee_1 (fun r1_1 => ?_)
  show cr_P Γ E 2 _ 0 0 S 4 ([(0, .double p0)]) ([.int (cr_b r1_1)]) _
  refine cr_ifb_ne X 12 dJxe99ae_doubleToLongBits_ccdee_4 rfl ?_ ?_
  · refine cr_ldc2 X k_Jxe99ae_doubleToLongBits_ccdee_5 dJxe99ae_doubleToLongBits_ccdee_12 ?_
    exact cr_lret X rfl rfl dJxe99ae_doubleToLongBits_ccdee_15
  · refine cr_dload_n X 0 rfl dJxe99ae_doubleToLongBits_ccdee_7 ?_
    refine cr_rawd X k_Jxe99ae_doubleToLongBits_ccdee_1 k_Jxe99ae_doubleToLongBits_ccdee_2 k_Jxe99ae_doubleToLongBits_ccdee_3 k_Jxe99ae_doubleToLongBits_ccdee_4 (by decide) (Nat.le_of_ble_eq_true rfl) dJxe99ae_doubleToLongBits_ccdee_8 ?_
    exact cr_lret X rfl rfl dJxe99ae_doubleToLongBits_ccdee_11
theorem k_X9_digest_1 : (Cond.fieldLink RX9 28 "CraneCampaignModel" "thrown" "I") ∈ wsX9_digest := List.mem_of_getElem? (i := 1) (by rfl)
theorem k_X9_digest_2 : (Cond.constantLong RX9 192 (2269)) ∈ wsX9_digest := List.mem_of_getElem? (i := 2) (by rfl)
theorem k_X9_digest_3 : (Cond.fieldLink RX9 188 "CraneCampaignModel" "h" "J") ∈ wsX9_digest := List.mem_of_getElem? (i := 3) (by rfl)
theorem k_X9_digest_4 : (Cond.fieldLink RX9 7 "CraneCampaignModel" "z" "[I") ∈ wsX9_digest := List.mem_of_getElem? (i := 4) (by rfl)
theorem k_X9_digest_5 : (Cond.fieldLink RX9 98 "CraneCampaignModel" "length" "I") ∈ wsX9_digest := List.mem_of_getElem? (i := 5) (by rfl)
theorem k_X9_digest_6 : (Cond.fieldLink RX9 19 "CraneCampaignModel" "text" "[I") ∈ wsX9_digest := List.mem_of_getElem? (i := 6) (by rfl)
theorem i_X9_digest_X9 : ∀ w ∈ wsX90, w ∈ wsX9_digest := by decide +kernel
abbrev rm_X9_digest : Room := { frames := 5, cells := 0, slots := 0, locals := 126 }
set_option maxHeartbeats 4000000 in
set_option maxRecDepth 100000 in
theorem b_X9_digest_324 {Γ : cr_C} {E : cr_E} (X : cr_X Γ E cX9_digest 3 RX9 wsX9_digest rm_X9_digest (some .long)) : ∀ (n : Nat) (x1 : Int32) (S : cr_S), cr_P Γ E 3 (cr_F Γ E cr_vLS) 0 0 S 324 ([(0, .ref (E.2.1 9 0)), (1, .int x1)]) ([]) (s_X9_digest_324 n x1 S) := by
  have hEK := X.2.2.2.2.2.2.1
  intro n
  induction n with
  | zero => intro x1 S; exact cr_none
  | succ n ih =>
    intro x1 S
    rw [s_X9_digest_324]
    refine cr_iload_n X 1 rfl dX9_digest_324 ?_
    refine cr_aload_n X 0 rfl dX9_digest_325 ?_
    refine cr_get X ((cr_m0 E).at rfl rfl) rfl i_X9_digest_X9 6 (by decide) k_X9_digest_5 rfl dX9_digest_326 ?_
    refine cr_icmp_ge X 349 dX9_digest_329 rfl ?_ ?_
    · refine cr_aload_n X 0 rfl dX9_digest_349 ?_
      refine cr_get X ((cr_m0 E).at rfl rfl) rfl i_X9_digest_X9 8 (by decide) k_X9_digest_3 rfl dX9_digest_350 ?_
      exact cr_lret X rfl rfl dX9_digest_353
    · refine cr_aload_n X 0 rfl dX9_digest_332 ?_
      refine cr_aload_n X 0 rfl dX9_digest_333 ?_
      refine cr_get X ((cr_m0 E).at rfl rfl) rfl i_X9_digest_X9 3 (by decide) k_X9_digest_6 rfl dX9_digest_334 ?_
      refine cr_iload_n X 1 rfl dX9_digest_337 ?_
      refine cr_iald X ((cr_m4 E).at rfl rfl) dX9_digest_338 ?_
      refine cr_i2l X dX9_digest_339 ?_
      refine cr_callV X (As := [.long (((((S.1 9 4) (x1).toNatClampNeg)).toInt64))]) (rest := []) (c_X9_mix Γ.2.1 E hEK S (((((S.1 9 4) (x1).toNatClampNeg)).toInt64))) ((cr_m0 E).at rfl rfl) rfl 1 gX9_digest_X9_mix rfl rfl rfl (by decide +kernel) ⟨Nat.le_of_ble_eq_true rfl, Nat.le_of_ble_eq_true rfl⟩ (by decide) rfl rfl (Nat.le_of_ble_eq_true rfl) dX9_digest_340 (fun r340_33 => ?_)
      show cr_P Γ E 3 _ 0 0 r340_33 343 ([(0, .ref (E.2.1 9 0)), (1, .int x1)]) ([]) _
      refine cr_iinc X (x1 + 1) (fun v343_34 => [(1, .int v343_34), (0, .ref (E.2.1 9 0))]) 1 rfl rfl (fun _ => rfl) (by decide) dX9_digest_343 (fun v343_34 => ?_)
      refine cr_goto X 324 dX9_digest_346 rfl ?_
      refine cr_sub (lv' := [(0, .ref (E.2.1 9 0)), (1, .int v343_34)]) [1, 0] rfl ?_
      exact ih v343_34 r340_33
set_option maxHeartbeats 4000000 in
set_option maxRecDepth 100000 in
theorem b_X9_digest_248 {Γ : cr_C} {E : cr_E} (X : cr_X Γ E cX9_digest 3 RX9 wsX9_digest rm_X9_digest (some .long)) : ∀ (n : Nat) (x1 : Int32) (S : cr_S), cr_P Γ E 3 (cr_F Γ E cr_vLS) 0 0 S 248 ([(0, .ref (E.2.1 9 0)), (1, .int x1)]) ([]) (s_X9_digest_248 n x1 S) := by
  have hEK := X.2.2.2.2.2.2.1
  intro n
  induction n with
  | zero => intro x1 S; exact cr_none
  | succ n ih =>
    intro x1 S
    rw [s_X9_digest_248]
    refine cr_iload_n X 1 rfl dX9_digest_248 ?_
    refine cr_bipush X (9 : Int32) (by decide) dX9_digest_249 ?_
    refine cr_icmp_ge X 272 dX9_digest_251 rfl ?_ ?_
    · refine cr_aload_n X 0 rfl dX9_digest_272 ?_
      refine cr_aload_n X 0 rfl dX9_digest_273 ?_
      refine cr_callV X (As := []) (rest := [.ref (E.2.1 9 0)]) (c_X9_bestNow_S Γ.2.1 E hEK S) ((cr_m0 E).at rfl rfl) rfl 0 gX9_digest_X9_bestNow rfl rfl rfl (by decide +kernel) ⟨Nat.le_of_ble_eq_true rfl, Nat.le_of_ble_eq_true rfl⟩ (by decide) rfl rfl (Nat.le_of_ble_eq_true rfl) dX9_digest_274 (fun r274_16 => ?_)
      show cr_P Γ E 3 _ 0 0 (cr_us S 9 r274_16.2) 277 ([(0, .ref (E.2.1 9 0)), (1, .int x1)]) ([.int r274_16.1, .ref (E.2.1 9 0)]) _
      refine cr_bds (fun S274_17 => ?_)
      refine cr_i2l X dX9_digest_277 ?_
      refine cr_callV X (As := [.long (((r274_16.1).toInt64))]) (rest := []) (c_X9_mix Γ.2.1 E hEK S274_17 (((r274_16.1).toInt64))) ((cr_m0 E).at rfl rfl) rfl 1 gX9_digest_X9_mix rfl rfl rfl (by decide +kernel) ⟨Nat.le_of_ble_eq_true rfl, Nat.le_of_ble_eq_true rfl⟩ (by decide) rfl rfl (Nat.le_of_ble_eq_true rfl) dX9_digest_278 (fun r278_18 => ?_)
      show cr_P Γ E 3 _ 0 0 r278_18 281 ([(0, .ref (E.2.1 9 0)), (1, .int x1)]) ([]) _
      refine cr_aload_n X 0 rfl dX9_digest_281 ?_
      refine cr_aload_n X 0 rfl dX9_digest_282 ?_
      refine cr_callV X (As := []) (rest := [.ref (E.2.1 9 0)]) (c_X9_doneNow_S Γ.2.1 E hEK r278_18) ((cr_m0 E).at rfl rfl) rfl 0 gX9_digest_X9_doneNow rfl rfl rfl (by decide +kernel) ⟨Nat.le_of_ble_eq_true rfl, Nat.le_of_ble_eq_true rfl⟩ (by decide) rfl rfl (Nat.le_of_ble_eq_true rfl) dX9_digest_283 (fun r283_19 => ?_)
      show cr_P Γ E 3 _ 0 0 (cr_us r278_18 9 r283_19.2) 286 ([(0, .ref (E.2.1 9 0)), (1, .int x1)]) ([.int r283_19.1, .ref (E.2.1 9 0)]) _
      refine cr_bds (fun S283_20 => ?_)
      refine cr_i2l X dX9_digest_286 ?_
      refine cr_callV X (As := [.long (((r283_19.1).toInt64))]) (rest := []) (c_X9_mix Γ.2.1 E hEK S283_20 (((r283_19.1).toInt64))) ((cr_m0 E).at rfl rfl) rfl 1 gX9_digest_X9_mix rfl rfl rfl (by decide +kernel) ⟨Nat.le_of_ble_eq_true rfl, Nat.le_of_ble_eq_true rfl⟩ (by decide) rfl rfl (Nat.le_of_ble_eq_true rfl) dX9_digest_287 (fun r287_21 => ?_)
      show cr_P Γ E 3 _ 0 0 r287_21 290 ([(0, .ref (E.2.1 9 0)), (1, .int x1)]) ([]) _
      refine cr_aload_n X 0 rfl dX9_digest_290 ?_
      refine cr_aload_n X 0 rfl dX9_digest_291 ?_
      refine cr_callV X (As := []) (rest := [.ref (E.2.1 9 0)]) (c_X9_meanNow_S Γ.2.1 E hEK r287_21) ((cr_m0 E).at rfl rfl) rfl 0 gX9_digest_X9_meanNow rfl rfl rfl (by decide +kernel) ⟨Nat.le_of_ble_eq_true rfl, Nat.le_of_ble_eq_true rfl⟩ (by decide) rfl rfl (Nat.le_of_ble_eq_true rfl) dX9_digest_292 (fun r292_22 => ?_)
      show cr_P Γ E 3 _ 0 0 r287_21 295 ([(0, .ref (E.2.1 9 0)), (1, .int x1)]) ([.float r292_22, .ref (E.2.1 9 0)]) _
      refine cr_callS X (As := [.float r292_22]) (rest := [.ref (E.2.1 9 0)]) (c_Jxf58ca_floatToIntBits_5c35a Γ.2.1 E hEK r287_21 r292_22) 1 gX9_digest_Jxf58ca_floatToIntBits_5c35a rfl rfl rfl (by decide +kernel) ⟨Nat.le_of_ble_eq_true rfl, Nat.le_of_ble_eq_true rfl⟩ (by decide) rfl rfl (Nat.le_of_ble_eq_true rfl) dX9_digest_295 (fun r295_23 => ?_)
      show cr_P Γ E 3 _ 0 0 r287_21 298 ([(0, .ref (E.2.1 9 0)), (1, .int x1)]) ([.int r295_23, .ref (E.2.1 9 0)]) _
      refine cr_i2l X dX9_digest_298 ?_
      refine cr_callV X (As := [.long (((r295_23).toInt64))]) (rest := []) (c_X9_mix Γ.2.1 E hEK r287_21 (((r295_23).toInt64))) ((cr_m0 E).at rfl rfl) rfl 1 gX9_digest_X9_mix rfl rfl rfl (by decide +kernel) ⟨Nat.le_of_ble_eq_true rfl, Nat.le_of_ble_eq_true rfl⟩ (by decide) rfl rfl (Nat.le_of_ble_eq_true rfl) dX9_digest_299 (fun r299_24 => ?_)
      show cr_P Γ E 3 _ 0 0 r299_24 302 ([(0, .ref (E.2.1 9 0)), (1, .int x1)]) ([]) _
      refine cr_aload_n X 0 rfl dX9_digest_302 ?_
      refine cr_aload_n X 0 rfl dX9_digest_303 ?_
      refine cr_callV X (As := []) (rest := [.ref (E.2.1 9 0)]) (c_X9_shareNow_S Γ.2.1 E hEK r299_24) ((cr_m0 E).at rfl rfl) rfl 0 gX9_digest_X9_shareNow rfl rfl rfl (by decide +kernel) ⟨Nat.le_of_ble_eq_true rfl, Nat.le_of_ble_eq_true rfl⟩ (by decide) rfl rfl (Nat.le_of_ble_eq_true rfl) dX9_digest_304 (fun r304_25 => ?_)
      show cr_P Γ E 3 _ 0 0 r299_24 307 ([(0, .ref (E.2.1 9 0)), (1, .int x1)]) ([.double r304_25, .ref (E.2.1 9 0)]) _
      refine cr_callS X (As := [.double r304_25]) (rest := [.ref (E.2.1 9 0)]) (c_Jxe99ae_doubleToLongBits_ccdee Γ.2.1 E hEK r299_24 r304_25) 1 gX9_digest_Jxe99ae_doubleToLongBits_ccdee rfl rfl rfl (by decide +kernel) ⟨Nat.le_of_ble_eq_true rfl, Nat.le_of_ble_eq_true rfl⟩ (by decide) rfl rfl (Nat.le_of_ble_eq_true rfl) dX9_digest_307 (fun r307_26 => ?_)
      show cr_P Γ E 3 _ 0 0 r299_24 310 ([(0, .ref (E.2.1 9 0)), (1, .int x1)]) ([.long r307_26, .ref (E.2.1 9 0)]) _
      refine cr_callV X (As := [.long r307_26]) (rest := []) (c_X9_mix Γ.2.1 E hEK r299_24 r307_26) ((cr_m0 E).at rfl rfl) rfl 1 gX9_digest_X9_mix rfl rfl rfl (by decide +kernel) ⟨Nat.le_of_ble_eq_true rfl, Nat.le_of_ble_eq_true rfl⟩ (by decide) rfl rfl (Nat.le_of_ble_eq_true rfl) dX9_digest_310 (fun r310_27 => ?_)
      show cr_P Γ E 3 _ 0 0 r310_27 313 ([(0, .ref (E.2.1 9 0)), (1, .int x1)]) ([]) _
      refine cr_aload_n X 0 rfl dX9_digest_313 ?_
      refine cr_aload_n X 0 rfl dX9_digest_314 ?_
      refine cr_get X ((cr_m0 E).at rfl rfl) rfl i_X9_digest_X9 6 (by decide) k_X9_digest_5 rfl dX9_digest_315 ?_
      refine cr_i2l X dX9_digest_318 ?_
      refine cr_callV X (As := [.long (((((r310_27.1 9 0) 6)).toInt64))]) (rest := []) (c_X9_mix Γ.2.1 E hEK r310_27 (((((r310_27.1 9 0) 6)).toInt64))) ((cr_m0 E).at rfl rfl) rfl 1 gX9_digest_X9_mix rfl rfl rfl (by decide +kernel) ⟨Nat.le_of_ble_eq_true rfl, Nat.le_of_ble_eq_true rfl⟩ (by decide) rfl rfl (Nat.le_of_ble_eq_true rfl) dX9_digest_319 (fun r319_28 => ?_)
      show cr_P Γ E 3 _ 0 0 r319_28 322 ([(0, .ref (E.2.1 9 0)), (1, .int x1)]) ([]) _
      refine cr_iconst X (0 : Int32) (by decide) dX9_digest_322 ?_
      refine cr_istore_n X ([(1, .int ((0 : Int32))), (0, .ref (E.2.1 9 0))]) rfl (by decide) dX9_digest_323 ?_
      refine cr_sub (lv' := [(0, .ref (E.2.1 9 0)), (1, .int ((0 : Int32)))]) [1, 0] rfl ?_
      exact b_X9_digest_324 X 1200 ((0 : Int32)) r319_28
    · refine cr_aload_n X 0 rfl dX9_digest_254 ?_
      refine cr_aload_n X 0 rfl dX9_digest_255 ?_
      refine cr_bipush X (24 : Int32) (by decide) dX9_digest_256 ?_
      refine cr_iload_n X 1 rfl dX9_digest_258 ?_
      refine cr_callV X (As := [.int ((24 : Int32)), .int x1]) (rest := [.ref (E.2.1 9 0)]) (c_X9_after_S Γ.2.1 E hEK S ((24 : Int32)) x1) ((cr_m0 E).at rfl rfl) rfl 2 gX9_digest_X9_after rfl rfl rfl (by decide +kernel) ⟨Nat.le_of_ble_eq_true rfl, Nat.le_of_ble_eq_true rfl⟩ (by decide) rfl rfl (Nat.le_of_ble_eq_true rfl) dX9_digest_259 (fun r259_29 => ?_)
      show cr_P Γ E 3 _ 0 0 (cr_us S 9 r259_29.2) 262 ([(0, .ref (E.2.1 9 0)), (1, .int x1)]) ([.int r259_29.1, .ref (E.2.1 9 0)]) _
      refine cr_bds (fun S259_30 => ?_)
      refine cr_i2l X dX9_digest_262 ?_
      refine cr_callV X (As := [.long (((r259_29.1).toInt64))]) (rest := []) (c_X9_mix Γ.2.1 E hEK S259_30 (((r259_29.1).toInt64))) ((cr_m0 E).at rfl rfl) rfl 1 gX9_digest_X9_mix rfl rfl rfl (by decide +kernel) ⟨Nat.le_of_ble_eq_true rfl, Nat.le_of_ble_eq_true rfl⟩ (by decide) rfl rfl (Nat.le_of_ble_eq_true rfl) dX9_digest_263 (fun r263_31 => ?_)
      show cr_P Γ E 3 _ 0 0 r263_31 266 ([(0, .ref (E.2.1 9 0)), (1, .int x1)]) ([]) _
      refine cr_iinc X (x1 + 1) (fun v266_32 => [(1, .int v266_32), (0, .ref (E.2.1 9 0))]) 1 rfl rfl (fun _ => rfl) (by decide) dX9_digest_266 (fun v266_32 => ?_)
      refine cr_goto X 248 dX9_digest_269 rfl ?_
      refine cr_sub (lv' := [(0, .ref (E.2.1 9 0)), (1, .int v266_32)]) [1, 0] rfl ?_
      exact ih v266_32 r263_31
set_option maxHeartbeats 4000000 in
set_option maxRecDepth 100000 in
theorem b_X9_digest_220 {Γ : cr_C} {E : cr_E} (X : cr_X Γ E cX9_digest 3 RX9 wsX9_digest rm_X9_digest (some .long)) : ∀ (n : Nat) (x1 : Int32) (S : cr_S), cr_P Γ E 3 (cr_F Γ E cr_vLS) 0 0 S 220 ([(0, .ref (E.2.1 9 0)), (1, .int x1)]) ([]) (s_X9_digest_220 n x1 S) := by
  have hEK := X.2.2.2.2.2.2.1
  intro n
  induction n with
  | zero => intro x1 S; exact cr_none
  | succ n ih =>
    intro x1 S
    rw [s_X9_digest_220]
    refine cr_iload_n X 1 rfl dX9_digest_220 ?_
    refine cr_iconst X (5 : Int32) (by decide) dX9_digest_221 ?_
    refine cr_icmp_ge X 246 dX9_digest_222 rfl ?_ ?_
    · refine cr_iconst X (0 : Int32) (by decide) dX9_digest_246 ?_
      refine cr_istore_n X ([(1, .int ((0 : Int32))), (0, .ref (E.2.1 9 0))]) rfl (by decide) dX9_digest_247 ?_
      refine cr_sub (lv' := [(0, .ref (E.2.1 9 0)), (1, .int ((0 : Int32)))]) [1, 0] rfl ?_
      exact b_X9_digest_248 X 1200 ((0 : Int32)) S
    · refine cr_aload_n X 0 rfl dX9_digest_225 ?_
      refine cr_aload_n X 0 rfl dX9_digest_226 ?_
      refine cr_get X ((cr_m0 E).at rfl rfl) rfl i_X9_digest_X9 0 (by decide) k_X9_digest_4 rfl dX9_digest_227 ?_
      refine cr_sipush X (177 : Int32) (by decide) dX9_digest_230 ?_
      refine cr_iload_n X 1 rfl dX9_digest_233 ?_
      refine cr_iadd X dX9_digest_234 ?_
      refine cr_iald X ((cr_m1 E).at rfl rfl) dX9_digest_235 ?_
      refine cr_i2l X dX9_digest_236 ?_
      refine cr_callV X (As := [.long (((((S.1 9 1) (((177 : Int32) + x1)).toNatClampNeg)).toInt64))]) (rest := []) (c_X9_mix Γ.2.1 E hEK S (((((S.1 9 1) (((177 : Int32) + x1)).toNatClampNeg)).toInt64))) ((cr_m0 E).at rfl rfl) rfl 1 gX9_digest_X9_mix rfl rfl rfl (by decide +kernel) ⟨Nat.le_of_ble_eq_true rfl, Nat.le_of_ble_eq_true rfl⟩ (by decide) rfl rfl (Nat.le_of_ble_eq_true rfl) dX9_digest_237 (fun r237_14 => ?_)
      show cr_P Γ E 3 _ 0 0 r237_14 240 ([(0, .ref (E.2.1 9 0)), (1, .int x1)]) ([]) _
      refine cr_iinc X (x1 + 1) (fun v240_15 => [(1, .int v240_15), (0, .ref (E.2.1 9 0))]) 1 rfl rfl (fun _ => rfl) (by decide) dX9_digest_240 (fun v240_15 => ?_)
      refine cr_goto X 220 dX9_digest_243 rfl ?_
      refine cr_sub (lv' := [(0, .ref (E.2.1 9 0)), (1, .int v240_15)]) [1, 0] rfl ?_
      exact ih v240_15 r237_14
set_option maxHeartbeats 4000000 in
set_option maxRecDepth 100000 in
theorem b_X9_digest_171 {Γ : cr_C} {E : cr_E} (X : cr_X Γ E cX9_digest 3 RX9 wsX9_digest rm_X9_digest (some .long)) : ∀ (n : Nat) (x1 : Int32) (S : cr_S), cr_P Γ E 3 (cr_F Γ E cr_vLS) 0 0 S 171 ([(0, .ref (E.2.1 9 0)), (1, .int x1)]) ([]) (s_X9_digest_171 n x1 S) := by
  have hEK := X.2.2.2.2.2.2.1
  intro n
  induction n with
  | zero => intro x1 S; exact cr_none
  | succ n ih =>
    intro x1 S
    rw [s_X9_digest_171]
    refine cr_iload_n X 1 rfl dX9_digest_171 ?_
    refine cr_aload_n X 0 rfl dX9_digest_172 ?_
    refine cr_get X ((cr_m0 E).at rfl rfl) rfl i_X9_digest_X9 0 (by decide) k_X9_digest_4 rfl dX9_digest_173 ?_
    refine cr_bipush X (127 : Int32) (by decide) dX9_digest_176 ?_
    refine cr_ialdk X 127 (by decide) (by decide) ((cr_m1 E).at rfl rfl) dX9_digest_178 ?_
    refine cr_icmp_ge X 218 dX9_digest_179 rfl ?_ ?_
    · refine cr_iconst X (0 : Int32) (by decide) dX9_digest_218 ?_
      refine cr_istore_n X ([(1, .int ((0 : Int32))), (0, .ref (E.2.1 9 0))]) rfl (by decide) dX9_digest_219 ?_
      refine cr_sub (lv' := [(0, .ref (E.2.1 9 0)), (1, .int ((0 : Int32)))]) [1, 0] rfl ?_
      exact b_X9_digest_220 X 1200 ((0 : Int32)) S
    · refine cr_aload_n X 0 rfl dX9_digest_182 ?_
      refine cr_aload_n X 0 rfl dX9_digest_183 ?_
      refine cr_get X ((cr_m0 E).at rfl rfl) rfl i_X9_digest_X9 0 (by decide) k_X9_digest_4 rfl dX9_digest_184 ?_
      refine cr_sipush X (128 : Int32) (by decide) dX9_digest_187 ?_
      refine cr_iload_n X 1 rfl dX9_digest_190 ?_
      refine cr_iadd X dX9_digest_191 ?_
      refine cr_iald X ((cr_m1 E).at rfl rfl) dX9_digest_192 ?_
      refine cr_i2l X dX9_digest_193 ?_
      refine cr_callV X (As := [.long (((((S.1 9 1) (((128 : Int32) + x1)).toNatClampNeg)).toInt64))]) (rest := []) (c_X9_mix Γ.2.1 E hEK S (((((S.1 9 1) (((128 : Int32) + x1)).toNatClampNeg)).toInt64))) ((cr_m0 E).at rfl rfl) rfl 1 gX9_digest_X9_mix rfl rfl rfl (by decide +kernel) ⟨Nat.le_of_ble_eq_true rfl, Nat.le_of_ble_eq_true rfl⟩ (by decide) rfl rfl (Nat.le_of_ble_eq_true rfl) dX9_digest_194 (fun r194_11 => ?_)
      show cr_P Γ E 3 _ 0 0 r194_11 197 ([(0, .ref (E.2.1 9 0)), (1, .int x1)]) ([]) _
      refine cr_aload_n X 0 rfl dX9_digest_197 ?_
      refine cr_aload_n X 0 rfl dX9_digest_198 ?_
      refine cr_get X ((cr_m0 E).at rfl rfl) rfl i_X9_digest_X9 0 (by decide) k_X9_digest_4 rfl dX9_digest_199 ?_
      refine cr_sipush X (134 : Int32) (by decide) dX9_digest_202 ?_
      refine cr_iload_n X 1 rfl dX9_digest_205 ?_
      refine cr_iadd X dX9_digest_206 ?_
      refine cr_iald X ((cr_m1 E).at rfl rfl) dX9_digest_207 ?_
      refine cr_i2l X dX9_digest_208 ?_
      refine cr_callV X (As := [.long (((((r194_11.1 9 1) (((134 : Int32) + x1)).toNatClampNeg)).toInt64))]) (rest := []) (c_X9_mix Γ.2.1 E hEK r194_11 (((((r194_11.1 9 1) (((134 : Int32) + x1)).toNatClampNeg)).toInt64))) ((cr_m0 E).at rfl rfl) rfl 1 gX9_digest_X9_mix rfl rfl rfl (by decide +kernel) ⟨Nat.le_of_ble_eq_true rfl, Nat.le_of_ble_eq_true rfl⟩ (by decide) rfl rfl (Nat.le_of_ble_eq_true rfl) dX9_digest_209 (fun r209_12 => ?_)
      show cr_P Γ E 3 _ 0 0 r209_12 212 ([(0, .ref (E.2.1 9 0)), (1, .int x1)]) ([]) _
      refine cr_iinc X (x1 + 1) (fun v212_13 => [(1, .int v212_13), (0, .ref (E.2.1 9 0))]) 1 rfl rfl (fun _ => rfl) (by decide) dX9_digest_212 (fun v212_13 => ?_)
      refine cr_goto X 171 dX9_digest_215 rfl ?_
      refine cr_sub (lv' := [(0, .ref (E.2.1 9 0)), (1, .int v212_13)]) [1, 0] rfl ?_
      exact ih v212_13 r209_12
set_option maxHeartbeats 4000000 in
set_option maxRecDepth 100000 in
theorem b_X9_digest_121 {Γ : cr_C} {E : cr_E} (X : cr_X Γ E cX9_digest 3 RX9 wsX9_digest rm_X9_digest (some .long)) : ∀ (n : Nat) (x1 : Int32) (S : cr_S), cr_P Γ E 3 (cr_F Γ E cr_vLS) 0 0 S 121 ([(0, .ref (E.2.1 9 0)), (1, .int x1)]) ([]) (s_X9_digest_121 n x1 S) := by
  have hEK := X.2.2.2.2.2.2.1
  intro n
  induction n with
  | zero => intro x1 S; exact cr_none
  | succ n ih =>
    intro x1 S
    rw [s_X9_digest_121]
    refine cr_iload_n X 1 rfl dX9_digest_121 ?_
    refine cr_aload_n X 0 rfl dX9_digest_122 ?_
    refine cr_get X ((cr_m0 E).at rfl rfl) rfl i_X9_digest_X9 0 (by decide) k_X9_digest_4 rfl dX9_digest_123 ?_
    refine cr_sipush X (156 : Int32) (by decide) dX9_digest_126 ?_
    refine cr_ialdk X 156 (by decide) (by decide) ((cr_m1 E).at rfl rfl) dX9_digest_129 ?_
    refine cr_icmp_ge X 169 dX9_digest_130 rfl ?_ ?_
    · refine cr_iconst X (0 : Int32) (by decide) dX9_digest_169 ?_
      refine cr_istore_n X ([(1, .int ((0 : Int32))), (0, .ref (E.2.1 9 0))]) rfl (by decide) dX9_digest_170 ?_
      refine cr_sub (lv' := [(0, .ref (E.2.1 9 0)), (1, .int ((0 : Int32)))]) [1, 0] rfl ?_
      exact b_X9_digest_171 X 1200 ((0 : Int32)) S
    · refine cr_aload_n X 0 rfl dX9_digest_133 ?_
      refine cr_aload_n X 0 rfl dX9_digest_134 ?_
      refine cr_get X ((cr_m0 E).at rfl rfl) rfl i_X9_digest_X9 0 (by decide) k_X9_digest_4 rfl dX9_digest_135 ?_
      refine cr_sipush X (157 : Int32) (by decide) dX9_digest_138 ?_
      refine cr_iload_n X 1 rfl dX9_digest_141 ?_
      refine cr_iadd X dX9_digest_142 ?_
      refine cr_iald X ((cr_m1 E).at rfl rfl) dX9_digest_143 ?_
      refine cr_i2l X dX9_digest_144 ?_
      refine cr_callV X (As := [.long (((((S.1 9 1) (((157 : Int32) + x1)).toNatClampNeg)).toInt64))]) (rest := []) (c_X9_mix Γ.2.1 E hEK S (((((S.1 9 1) (((157 : Int32) + x1)).toNatClampNeg)).toInt64))) ((cr_m0 E).at rfl rfl) rfl 1 gX9_digest_X9_mix rfl rfl rfl (by decide +kernel) ⟨Nat.le_of_ble_eq_true rfl, Nat.le_of_ble_eq_true rfl⟩ (by decide) rfl rfl (Nat.le_of_ble_eq_true rfl) dX9_digest_145 (fun r145_8 => ?_)
      show cr_P Γ E 3 _ 0 0 r145_8 148 ([(0, .ref (E.2.1 9 0)), (1, .int x1)]) ([]) _
      refine cr_aload_n X 0 rfl dX9_digest_148 ?_
      refine cr_aload_n X 0 rfl dX9_digest_149 ?_
      refine cr_get X ((cr_m0 E).at rfl rfl) rfl i_X9_digest_X9 0 (by decide) k_X9_digest_4 rfl dX9_digest_150 ?_
      refine cr_sipush X (167 : Int32) (by decide) dX9_digest_153 ?_
      refine cr_iload_n X 1 rfl dX9_digest_156 ?_
      refine cr_iadd X dX9_digest_157 ?_
      refine cr_iald X ((cr_m1 E).at rfl rfl) dX9_digest_158 ?_
      refine cr_i2l X dX9_digest_159 ?_
      refine cr_callV X (As := [.long (((((r145_8.1 9 1) (((167 : Int32) + x1)).toNatClampNeg)).toInt64))]) (rest := []) (c_X9_mix Γ.2.1 E hEK r145_8 (((((r145_8.1 9 1) (((167 : Int32) + x1)).toNatClampNeg)).toInt64))) ((cr_m0 E).at rfl rfl) rfl 1 gX9_digest_X9_mix rfl rfl rfl (by decide +kernel) ⟨Nat.le_of_ble_eq_true rfl, Nat.le_of_ble_eq_true rfl⟩ (by decide) rfl rfl (Nat.le_of_ble_eq_true rfl) dX9_digest_160 (fun r160_9 => ?_)
      show cr_P Γ E 3 _ 0 0 r160_9 163 ([(0, .ref (E.2.1 9 0)), (1, .int x1)]) ([]) _
      refine cr_iinc X (x1 + 1) (fun v163_10 => [(1, .int v163_10), (0, .ref (E.2.1 9 0))]) 1 rfl rfl (fun _ => rfl) (by decide) dX9_digest_163 (fun v163_10 => ?_)
      refine cr_goto X 121 dX9_digest_166 rfl ?_
      refine cr_sub (lv' := [(0, .ref (E.2.1 9 0)), (1, .int v163_10)]) [1, 0] rfl ?_
      exact ih v163_10 r160_9
set_option maxHeartbeats 4000000 in
set_option maxRecDepth 100000 in
theorem b_X9_digest_79 {Γ : cr_C} {E : cr_E} (X : cr_X Γ E cX9_digest 3 RX9 wsX9_digest rm_X9_digest (some .long)) (k66 : Int32 → cr_S → Option (Int64 × cr_S)) (hk66 : ∀ (x1 : Int32) (S : cr_S), cr_P Γ E 3 (cr_F Γ E cr_vLS) 0 0 S 66 ([(0, .ref (E.2.1 9 0)), (1, .int x1)]) [] (k66 x1 S)) : ∀ (n : Nat) (x1 : Int32) (x2 : Int32) (S : cr_S), cr_P Γ E 3 (cr_F Γ E cr_vLS) 0 0 S 79 ([(0, .ref (E.2.1 9 0)), (1, .int x1), (2, .int x2)]) ([]) (s_X9_digest_79 k66 n x1 x2 S) := by
  have hEK := X.2.2.2.2.2.2.1
  intro n
  induction n with
  | zero => intro x1 x2 S; exact cr_none
  | succ n ih =>
    intro x1 x2 S
    rw [s_X9_digest_79]
    refine cr_iload_n X 2 rfl dX9_digest_79 ?_
    refine cr_bipush X (11 : Int32) (by decide) dX9_digest_80 ?_
    refine cr_icmp_ge X 102 dX9_digest_82 rfl ?_ ?_
    · refine cr_aload_n X 0 rfl dX9_digest_102 ?_
      refine cr_aload_n X 0 rfl dX9_digest_103 ?_
      refine cr_iload_n X 1 rfl dX9_digest_104 ?_
      refine cr_iconst X (3 : Int32) (by decide) dX9_digest_105 ?_
      refine cr_callV X (As := [.int x1, .int ((3 : Int32))]) (rest := [.ref (E.2.1 9 0)]) (c_X9_windowOf_S Γ.2.1 E hEK S x1 ((3 : Int32))) ((cr_m0 E).at rfl rfl) rfl 2 gX9_digest_X9_windowOf rfl rfl rfl (by decide +kernel) ⟨Nat.le_of_ble_eq_true rfl, Nat.le_of_ble_eq_true rfl⟩ (by decide) rfl rfl (Nat.le_of_ble_eq_true rfl) dX9_digest_106 (fun r106_35 => ?_)
      show cr_P Γ E 3 _ 0 0 S 109 ([(0, .ref (E.2.1 9 0)), (1, .int x1), (2, .int x2)]) ([.int r106_35, .ref (E.2.1 9 0)]) _
      refine cr_i2l X dX9_digest_109 ?_
      refine cr_callV X (As := [.long (((r106_35).toInt64))]) (rest := []) (c_X9_mix Γ.2.1 E hEK S (((r106_35).toInt64))) ((cr_m0 E).at rfl rfl) rfl 1 gX9_digest_X9_mix rfl rfl rfl (by decide +kernel) ⟨Nat.le_of_ble_eq_true rfl, Nat.le_of_ble_eq_true rfl⟩ (by decide) rfl rfl (Nat.le_of_ble_eq_true rfl) dX9_digest_110 (fun r110_36 => ?_)
      show cr_P Γ E 3 _ 0 0 r110_36 113 ([(0, .ref (E.2.1 9 0)), (1, .int x1), (2, .int x2)]) ([]) _
      refine cr_iinc X (x1 + 1) (fun v113_37 => [(1, .int v113_37), (0, .ref (E.2.1 9 0)), (2, .int x2)]) 1 rfl rfl (fun _ => rfl) (by decide) dX9_digest_113 (fun v113_37 => ?_)
      refine cr_goto X 66 dX9_digest_116 rfl ?_
      refine cr_sub (lv' := [(0, .ref (E.2.1 9 0)), (1, .int v113_37)]) [1, 0] rfl ?_
      exact hk66 v113_37 r110_36
    · refine cr_aload_n X 0 rfl dX9_digest_85 ?_
      refine cr_aload_n X 0 rfl dX9_digest_86 ?_
      refine cr_iload_n X 1 rfl dX9_digest_87 ?_
      refine cr_iload_n X 2 rfl dX9_digest_88 ?_
      refine cr_callV X (As := [.int x1, .int x2]) (rest := [.ref (E.2.1 9 0)]) (c_X9_turbineNow_S Γ.2.1 E hEK S x1 x2) ((cr_m0 E).at rfl rfl) rfl 2 gX9_digest_X9_turbineNow rfl rfl rfl (by decide +kernel) ⟨Nat.le_of_ble_eq_true rfl, Nat.le_of_ble_eq_true rfl⟩ (by decide) rfl rfl (Nat.le_of_ble_eq_true rfl) dX9_digest_89 (fun r89_38 => ?_)
      show cr_P Γ E 3 _ 0 0 S 92 ([(0, .ref (E.2.1 9 0)), (1, .int x1), (2, .int x2)]) ([.int r89_38, .ref (E.2.1 9 0)]) _
      refine cr_i2l X dX9_digest_92 ?_
      refine cr_callV X (As := [.long (((r89_38).toInt64))]) (rest := []) (c_X9_mix Γ.2.1 E hEK S (((r89_38).toInt64))) ((cr_m0 E).at rfl rfl) rfl 1 gX9_digest_X9_mix rfl rfl rfl (by decide +kernel) ⟨Nat.le_of_ble_eq_true rfl, Nat.le_of_ble_eq_true rfl⟩ (by decide) rfl rfl (Nat.le_of_ble_eq_true rfl) dX9_digest_93 (fun r93_39 => ?_)
      show cr_P Γ E 3 _ 0 0 r93_39 96 ([(0, .ref (E.2.1 9 0)), (1, .int x1), (2, .int x2)]) ([]) _
      refine cr_iinc X (x2 + 1) (fun v96_40 => [(2, .int v96_40), (0, .ref (E.2.1 9 0)), (1, .int x1)]) 2 rfl rfl (fun _ => rfl) (by decide) dX9_digest_96 (fun v96_40 => ?_)
      refine cr_goto X 79 dX9_digest_99 rfl ?_
      refine cr_sub (lv' := [(0, .ref (E.2.1 9 0)), (1, .int x1), (2, .int v96_40)]) [1, 2, 0] rfl ?_
      exact ih x1 v96_40 r93_39
set_option maxHeartbeats 4000000 in
set_option maxRecDepth 100000 in
theorem b_X9_digest_66 {Γ : cr_C} {E : cr_E} (X : cr_X Γ E cX9_digest 3 RX9 wsX9_digest rm_X9_digest (some .long)) : ∀ (n : Nat) (x1 : Int32) (S : cr_S), cr_P Γ E 3 (cr_F Γ E cr_vLS) 0 0 S 66 ([(0, .ref (E.2.1 9 0)), (1, .int x1)]) ([]) (s_X9_digest_66 n x1 S) := by
  have hEK := X.2.2.2.2.2.2.1
  intro n
  induction n with
  | zero => intro x1 S; exact cr_none
  | succ n ih =>
    intro x1 S
    rw [s_X9_digest_66]
    refine cr_iload_n X 1 rfl dX9_digest_66 ?_
    refine cr_aload_n X 0 rfl dX9_digest_67 ?_
    refine cr_get X ((cr_m0 E).at rfl rfl) rfl i_X9_digest_X9 0 (by decide) k_X9_digest_4 rfl dX9_digest_68 ?_
    refine cr_bipush X (70 : Int32) (by decide) dX9_digest_71 ?_
    refine cr_ialdk X 70 (by decide) (by decide) ((cr_m1 E).at rfl rfl) dX9_digest_73 ?_
    refine cr_icmp_ge X 119 dX9_digest_74 rfl ?_ ?_
    · refine cr_iconst X (0 : Int32) (by decide) dX9_digest_119 ?_
      refine cr_istore_n X ([(1, .int ((0 : Int32))), (0, .ref (E.2.1 9 0))]) rfl (by decide) dX9_digest_120 ?_
      refine cr_sub (lv' := [(0, .ref (E.2.1 9 0)), (1, .int ((0 : Int32)))]) [1, 0] rfl ?_
      exact b_X9_digest_121 X 1200 ((0 : Int32)) S
    · refine cr_iconst X (0 : Int32) (by decide) dX9_digest_77 ?_
      refine cr_istore_n X ([(2, .int ((0 : Int32))), (0, .ref (E.2.1 9 0)), (1, .int x1)]) rfl (by decide) dX9_digest_78 ?_
      refine cr_sub (lv' := [(0, .ref (E.2.1 9 0)), (1, .int x1), (2, .int ((0 : Int32)))]) [1, 2, 0] rfl ?_
      exact b_X9_digest_79 X (fun x1a Sa => s_X9_digest_66 n x1a Sa) ih 1200 x1 ((0 : Int32)) S
set_option maxHeartbeats 4000000 in
set_option maxRecDepth 100000 in
theorem b_X9_digest_38 {Γ : cr_C} {E : cr_E} (X : cr_X Γ E cX9_digest 3 RX9 wsX9_digest rm_X9_digest (some .long)) : ∀ (n : Nat) (x1 : Int32) (S : cr_S), cr_P Γ E 3 (cr_F Γ E cr_vLS) 0 0 S 38 ([(0, .ref (E.2.1 9 0)), (1, .int x1)]) ([]) (s_X9_digest_38 n x1 S) := by
  have hEK := X.2.2.2.2.2.2.1
  intro n
  induction n with
  | zero => intro x1 S; exact cr_none
  | succ n ih =>
    intro x1 S
    rw [s_X9_digest_38]
    refine cr_iload_n X 1 rfl dX9_digest_38 ?_
    refine cr_bipush X (7 : Int32) (by decide) dX9_digest_39 ?_
    refine cr_icmp_ge X 64 dX9_digest_41 rfl ?_ ?_
    · refine cr_iconst X (0 : Int32) (by decide) dX9_digest_64 ?_
      refine cr_istore_n X ([(1, .int ((0 : Int32))), (0, .ref (E.2.1 9 0))]) rfl (by decide) dX9_digest_65 ?_
      refine cr_sub (lv' := [(0, .ref (E.2.1 9 0)), (1, .int ((0 : Int32)))]) [1, 0] rfl ?_
      exact b_X9_digest_66 X 1200 ((0 : Int32)) S
    · refine cr_aload_n X 0 rfl dX9_digest_44 ?_
      refine cr_aload_n X 0 rfl dX9_digest_45 ?_
      refine cr_get X ((cr_m0 E).at rfl rfl) rfl i_X9_digest_X9 0 (by decide) k_X9_digest_4 rfl dX9_digest_46 ?_
      refine cr_bipush X (71 : Int32) (by decide) dX9_digest_49 ?_
      refine cr_iload_n X 1 rfl dX9_digest_51 ?_
      refine cr_iadd X dX9_digest_52 ?_
      refine cr_iald X ((cr_m1 E).at rfl rfl) dX9_digest_53 ?_
      refine cr_i2l X dX9_digest_54 ?_
      refine cr_callV X (As := [.long (((((S.1 9 1) (((71 : Int32) + x1)).toNatClampNeg)).toInt64))]) (rest := []) (c_X9_mix Γ.2.1 E hEK S (((((S.1 9 1) (((71 : Int32) + x1)).toNatClampNeg)).toInt64))) ((cr_m0 E).at rfl rfl) rfl 1 gX9_digest_X9_mix rfl rfl rfl (by decide +kernel) ⟨Nat.le_of_ble_eq_true rfl, Nat.le_of_ble_eq_true rfl⟩ (by decide) rfl rfl (Nat.le_of_ble_eq_true rfl) dX9_digest_55 (fun r55_6 => ?_)
      show cr_P Γ E 3 _ 0 0 r55_6 58 ([(0, .ref (E.2.1 9 0)), (1, .int x1)]) ([]) _
      refine cr_iinc X (x1 + 1) (fun v58_7 => [(1, .int v58_7), (0, .ref (E.2.1 9 0))]) 1 rfl rfl (fun _ => rfl) (by decide) dX9_digest_58 (fun v58_7 => ?_)
      refine cr_goto X 38 dX9_digest_61 rfl ?_
      refine cr_sub (lv' := [(0, .ref (E.2.1 9 0)), (1, .int v58_7)]) [1, 0] rfl ?_
      exact ih v58_7 r55_6
set_option maxHeartbeats 4000000 in
set_option maxRecDepth 100000 in
theorem b_X9_digest_14 {Γ : cr_C} {E : cr_E} (X : cr_X Γ E cX9_digest 3 RX9 wsX9_digest rm_X9_digest (some .long)) : ∀ (n : Nat) (x1 : Int32) (S : cr_S), cr_P Γ E 3 (cr_F Γ E cr_vLS) 0 0 S 14 ([(0, .ref (E.2.1 9 0)), (1, .int x1)]) ([]) (s_X9_digest_14 n x1 S) := by
  have hEK := X.2.2.2.2.2.2.1
  intro n
  induction n with
  | zero => intro x1 S; exact cr_none
  | succ n ih =>
    intro x1 S
    rw [s_X9_digest_14]
    refine cr_iload_n X 1 rfl dX9_digest_14 ?_
    refine cr_bipush X (15 : Int32) (by decide) dX9_digest_15 ?_
    refine cr_icmp_ge X 36 dX9_digest_17 rfl ?_ ?_
    · refine cr_iconst X (0 : Int32) (by decide) dX9_digest_36 ?_
      refine cr_istore_n X ([(1, .int ((0 : Int32))), (0, .ref (E.2.1 9 0))]) rfl (by decide) dX9_digest_37 ?_
      refine cr_sub (lv' := [(0, .ref (E.2.1 9 0)), (1, .int ((0 : Int32)))]) [1, 0] rfl ?_
      exact b_X9_digest_38 X 1200 ((0 : Int32)) S
    · refine cr_aload_n X 0 rfl dX9_digest_20 ?_
      refine cr_aload_n X 0 rfl dX9_digest_21 ?_
      refine cr_iload_n X 1 rfl dX9_digest_22 ?_
      refine cr_callV X (As := [.int x1]) (rest := [.ref (E.2.1 9 0)]) (c_X9_counted_S Γ.2.1 E hEK S x1) ((cr_m0 E).at rfl rfl) rfl 1 gX9_digest_X9_counted rfl rfl rfl (by decide +kernel) ⟨Nat.le_of_ble_eq_true rfl, Nat.le_of_ble_eq_true rfl⟩ (by decide) rfl rfl (Nat.le_of_ble_eq_true rfl) dX9_digest_23 (fun r23_3 => ?_)
      show cr_P Γ E 3 _ 0 0 S 26 ([(0, .ref (E.2.1 9 0)), (1, .int x1)]) ([.int r23_3, .ref (E.2.1 9 0)]) _
      refine cr_i2l X dX9_digest_26 ?_
      refine cr_callV X (As := [.long (((r23_3).toInt64))]) (rest := []) (c_X9_mix Γ.2.1 E hEK S (((r23_3).toInt64))) ((cr_m0 E).at rfl rfl) rfl 1 gX9_digest_X9_mix rfl rfl rfl (by decide +kernel) ⟨Nat.le_of_ble_eq_true rfl, Nat.le_of_ble_eq_true rfl⟩ (by decide) rfl rfl (Nat.le_of_ble_eq_true rfl) dX9_digest_27 (fun r27_4 => ?_)
      show cr_P Γ E 3 _ 0 0 r27_4 30 ([(0, .ref (E.2.1 9 0)), (1, .int x1)]) ([]) _
      refine cr_iinc X (x1 + 1) (fun v30_5 => [(1, .int v30_5), (0, .ref (E.2.1 9 0))]) 1 rfl rfl (fun _ => rfl) (by decide) dX9_digest_30 (fun v30_5 => ?_)
      refine cr_goto X 14 dX9_digest_33 rfl ?_
      refine cr_sub (lv' := [(0, .ref (E.2.1 9 0)), (1, .int v30_5)]) [1, 0] rfl ?_
      exact ih v30_5 r27_4
set_option maxHeartbeats 4000000 in
set_option maxRecDepth 100000 in
theorem c_X9_digest (l : Launch) (E : cr_E) (hEK : cr_EK E) (S : cr_S) : cr_M l E yX9_digest wsX9_digest rm_X9_digest [.ref (E.2.1 9 0)] S cr_vLS (s_X9_digest S) := by
  refine cr_enter (cc := cX9_digest) (nL := 3) (rt := (some .long)) hEK (by decide) rfl (Nat.le_of_ble_eq_true rfl) (fun Γ hΓ X => ?_)
  subst hΓ
  have X : cr_X Γ E cX9_digest 3 RX9 wsX9_digest rm_X9_digest (some .long) := X
  unfold s_X9_digest
  show cr_P Γ E 3 _ 0 0 S 0 ([(0, .ref (E.2.1 9 0))]) [] _
  refine cr_aload_n X 0 rfl dX9_digest_0 ?_
  refine cr_iconst X (0 : Int32) (by decide) dX9_digest_1 ?_
  refine cr_putS X (cr_m0 E) 7 rfl rfl rfl i_X9_digest_X9 tyX9 tyX9_ok nmX9 (by decide) k_X9_digest_1 rfl rfl rfl (Nat.le_of_ble_eq_true rfl) dX9_digest_2 (fun S2_1 => ?_)
  refine cr_aload_n X 0 rfl dX9_digest_5 ?_
  refine cr_ldc2 X k_X9_digest_2 dX9_digest_6 ?_
  refine cr_puth X i_X9_digest_X9 k_X9_digest_3 dX9_digest_9 (fun S9_2 => ?_)
  refine cr_iconst X (0 : Int32) (by decide) dX9_digest_12 ?_
  refine cr_istore_n X ([(1, .int ((0 : Int32))), (0, .ref (E.2.1 9 0))]) rfl (by decide) dX9_digest_13 ?_
  refine cr_sub (lv' := [(0, .ref (E.2.1 9 0)), (1, .int ((0 : Int32)))]) [1, 0] rfl ?_
  exact b_X9_digest_14 X 1200 ((0 : Int32)) S9_2
theorem k_X9_doneIn_1 : (Cond.fieldLink RX9 28 "CraneCampaignModel" "thrown" "I") ∈ wsX9_doneIn := List.mem_of_getElem? (i := 1) (by rfl)
theorem i_X9_doneIn_X9 : ∀ w ∈ wsX90, w ∈ wsX9_doneIn := by decide +kernel
abbrev rm_X9_doneIn : Room := { frames := 4, cells := 0, slots := 0, locals := 99 }
set_option maxHeartbeats 4000000 in
set_option maxRecDepth 100000 in
theorem c_X9_doneIn (l : Launch) (E : cr_E) (hEK : cr_EK E) (S0 : cr_S) (G : cr_G) : cr_M l E yX9_doneIn wsX9_doneIn rm_X9_doneIn [.ref (E.2.1 9 0)] (cr_us S0 9 G) (cr_vIG S0 9) (s_X9_doneIn G) := by
  refine cr_enter (cc := cX9_doneIn) (nL := 1) (rt := (some .int)) hEK (by decide) rfl (Nat.le_of_ble_eq_true rfl) (fun Γ hΓ X => ?_)
  subst hΓ
  have X : cr_X Γ E cX9_doneIn 1 RX9 wsX9_doneIn rm_X9_doneIn (some .int) := X
  unfold s_X9_doneIn
  show cr_P Γ E 1 _ 0 0 (cr_us S0 9 G) 0 ([(0, .ref (E.2.1 9 0))]) [] _
  refine cr_aload_n X 0 rfl dX9_doneIn_0 ?_
  refine cr_iconst X (0 : Int32) (by decide) dX9_doneIn_1 ?_
  refine cr_putG X (cr_m0 E) 7 rfl rfl rfl i_X9_doneIn_X9 tyX9 tyX9_ok nmX9 (by decide) k_X9_doneIn_1 rfl rfl rfl (Nat.le_of_ble_eq_true rfl) dX9_doneIn_2 (fun G2_1 => ?_)
  refine cr_aload_n X 0 rfl dX9_doneIn_5 ?_
  refine cr_callV X (As := []) (rest := []) (c_X9_doneNow Γ.2.1 E hEK S0 G2_1) ((cr_m0 E).at (cr_row S0 9 G2_1 0) rfl) rfl 0 gX9_doneIn_X9_doneNow rfl rfl rfl (by decide +kernel) ⟨Nat.le_of_ble_eq_true rfl, Nat.le_of_ble_eq_true rfl⟩ (by decide) rfl rfl (Nat.le_of_ble_eq_true rfl) dX9_doneIn_6 (fun r6_2 => ?_)
  show cr_P Γ E 1 _ 0 0 (cr_us S0 9 r6_2.2) 9 ([(0, .ref (E.2.1 9 0))]) ([.int r6_2.1]) _
  exact cr_iret X rfl rfl dX9_doneIn_9
theorem c_X9_doneIn_S (l : Launch) (E : cr_E) (hEK : cr_EK E) (S : cr_S) : cr_M l E yX9_doneIn wsX9_doneIn rm_X9_doneIn [.ref (E.2.1 9 0)] S (cr_vIG S 9) (s_X9_doneIn   (S.1 9)) := by
  have h := c_X9_doneIn l E hEK S (S.1 9)
  rw [cr_us_self] at h
  exact h
theorem k_X9_ends_1 : (Cond.fieldLink RX9 110 "CraneCampaignModel" "state" "I") ∈ wsX9_ends := List.mem_of_getElem? (i := 1) (by rfl)
theorem i_X9_ends_X9 : ∀ w ∈ wsX90, w ∈ wsX9_ends := by decide +kernel
abbrev rm_X9_ends : Room := { frames := 1, cells := 0, slots := 0, locals := 21 }
set_option maxHeartbeats 4000000 in
set_option maxRecDepth 100000 in
theorem b_X9_ends_25 {Γ : cr_C} {E : cr_E} (X : cr_X Γ E cX9_ends 2 RX9 wsX9_ends rm_X9_ends (some .boolean)) (S0 : cr_S) (x1 : Int32) (G : cr_G) : cr_P Γ E 2 (cr_F Γ E (cr_vBG S0 9)) 0 0 (cr_us S0 9 G) 25 ([(1, .int x1)]) ([]) (s_X9_ends_25 x1 G) := by
  have hEK := X.2.2.2.2.2.2.1
  unfold s_X9_ends_25
  refine cr_iload_n X 0 rfl dX9_ends_25 ?_
  refine cr_bipush X (44 : Int32) (by decide) dX9_ends_26 ?_
  refine cr_icmp_eq X 37 dX9_ends_28 rfl ?_ ?_
  · refine cr_iconst X (1 : Int32) (by decide) dX9_ends_37 ?_
    refine cr_goto X 42 dX9_ends_38 rfl ?_
    exact cr_zret X true rfl rfl rfl dX9_ends_42
  · refine cr_iload_n X 0 rfl dX9_ends_31 ?_
    refine cr_bipush X (42 : Int32) (by decide) dX9_ends_32 ?_
    refine cr_icmp_ne X 41 dX9_ends_34 rfl ?_ ?_
    · refine cr_iconst X (0 : Int32) (by decide) dX9_ends_41 ?_
      exact cr_zret X false rfl rfl rfl dX9_ends_42
    · refine cr_iconst X (1 : Int32) (by decide) dX9_ends_37 ?_
      refine cr_goto X 42 dX9_ends_38 rfl ?_
      exact cr_zret X true rfl rfl rfl dX9_ends_42
set_option maxHeartbeats 4000000 in
set_option maxRecDepth 100000 in
theorem b_X9_ends_12 {Γ : cr_C} {E : cr_E} (X : cr_X Γ E cX9_ends 2 RX9 wsX9_ends rm_X9_ends (some .boolean)) (S0 : cr_S) (x1 : Int32) (y0 : Int32) (G : cr_G) : cr_P Γ E 2 (cr_F Γ E (cr_vBG S0 9)) 0 0 (cr_us S0 9 G) 12 ([(0, .ref (E.2.1 9 0)), (1, .int x1)]) ([.int y0, .ref (E.2.1 9 0)]) (s_X9_ends_12 x1 y0 G) := by
  have hEK := X.2.2.2.2.2.2.1
  unfold s_X9_ends_12
  refine cr_putG X (cr_m0 E) 9 rfl rfl rfl i_X9_ends_X9 tyX9 tyX9_ok nmX9 (by decide) k_X9_ends_1 rfl rfl rfl (Nat.le_of_ble_eq_true rfl) dX9_ends_12 (fun G12_1 => ?_)
  refine cr_iload_n X 1 rfl dX9_ends_15 ?_
  refine cr_bipush X (44 : Int32) (by decide) dX9_ends_16 ?_
  refine cr_icmp_ne X 25 dX9_ends_18 rfl ?_ ?_
  · refine cr_sub (lv' := [(1, .int x1)]) [1] rfl ?_
    exact b_X9_ends_25 X S0 x1 G12_1
  · refine cr_aload_n X 0 rfl dX9_ends_21 ?_
    refine cr_callV X (As := []) (rest := []) (c_X9_close Γ.2.1 E hEK S0 G12_1) ((cr_m0 E).at (cr_row S0 9 G12_1 0) rfl) rfl 0 gX9_ends_X9_close rfl rfl rfl (by decide +kernel) ⟨Nat.le_of_ble_eq_true rfl, Nat.le_of_ble_eq_true rfl⟩ (by decide) rfl rfl (Nat.le_of_ble_eq_true rfl) dX9_ends_22 (fun r22_2 => ?_)
    show cr_P Γ E 2 _ 0 0 (cr_us S0 9 r22_2) 25 ([(0, .ref (E.2.1 9 0)), (1, .int x1)]) ([]) _
    refine cr_sub (lv' := [(1, .int x1)]) [1] rfl ?_
    exact b_X9_ends_25 X S0 x1 r22_2
set_option maxHeartbeats 4000000 in
set_option maxRecDepth 100000 in
theorem c_X9_ends (l : Launch) (E : cr_E) (hEK : cr_EK E) (S0 : cr_S) (G : cr_G) (p1 : Int32) : cr_M l E yX9_ends wsX9_ends rm_X9_ends [.ref (E.2.1 9 0), .int p1] (cr_us S0 9 G) (cr_vBG S0 9) (s_X9_ends p1 G) := by
  refine cr_enter (cc := cX9_ends) (nL := 2) (rt := (some .boolean)) hEK (by decide) rfl (Nat.le_of_ble_eq_true rfl) (fun Γ hΓ X => ?_)
  subst hΓ
  have X : cr_X Γ E cX9_ends 2 RX9 wsX9_ends rm_X9_ends (some .boolean) := X
  unfold s_X9_ends
  show cr_P Γ E 2 _ 0 0 (cr_us S0 9 G) 0 ([(0, .ref (E.2.1 9 0)), (1, .int p1)]) [] _
  refine cr_aload_n X 0 rfl dX9_ends_0 ?_
  refine cr_iload_n X 1 rfl dX9_ends_1 ?_
  refine cr_bipush X (44 : Int32) (by decide) dX9_ends_2 ?_
  refine cr_icmp_ne X 11 dX9_ends_4 rfl ?_ ?_
  · refine cr_iconst X (4 : Int32) (by decide) dX9_ends_11 ?_
    refine cr_sub (lv' := [(0, .ref (E.2.1 9 0)), (1, .int p1)]) [0, 1] rfl ?_
    exact b_X9_ends_12 X S0 p1 ((4 : Int32)) G
  · refine cr_iconst X (0 : Int32) (by decide) dX9_ends_7 ?_
    refine cr_goto X 12 dX9_ends_8 rfl ?_
    refine cr_sub (lv' := [(0, .ref (E.2.1 9 0)), (1, .int p1)]) [0, 1] rfl ?_
    exact b_X9_ends_12 X S0 p1 ((0 : Int32)) G
theorem c_X9_ends_S (l : Launch) (E : cr_E) (hEK : cr_EK E) (S : cr_S) (p1 : Int32) : cr_M l E yX9_ends wsX9_ends rm_X9_ends [.ref (E.2.1 9 0), .int p1] S (cr_vBG S 9) (s_X9_ends  p1 (S.1 9)) := by
  have h := c_X9_ends l E hEK S (S.1 9) p1
  rw [cr_us_self] at h
  exact h
theorem k_X9_first_1 : (Cond.fieldLink RX9 107 "CraneCampaignModel" "number" "I") ∈ wsX9_first := List.mem_of_getElem? (i := 1) (by rfl)
theorem k_X9_first_2 : (Cond.fieldLink RX9 101 "CraneCampaignModel" "times" "I") ∈ wsX9_first := List.mem_of_getElem? (i := 2) (by rfl)
theorem k_X9_first_3 : (Cond.fieldLink RX9 110 "CraneCampaignModel" "state" "I") ∈ wsX9_first := List.mem_of_getElem? (i := 3) (by rfl)
theorem i_X9_first_X9 : ∀ w ∈ wsX90, w ∈ wsX9_first := by decide +kernel
abbrev rm_X9_first : Room := { frames := 1, cells := 0, slots := 0, locals := 22 }
set_option maxHeartbeats 4000000 in
set_option maxRecDepth 100000 in
theorem b_X9_first_34 {Γ : cr_C} {E : cr_E} (X : cr_X Γ E cX9_first 2 RX9 wsX9_first rm_X9_first (some .boolean)) (S0 : cr_S) (x1 : Int32) (y0 : Int32) (G : cr_G) : cr_P Γ E 2 (cr_F Γ E (cr_vBG S0 9)) 0 0 (cr_us S0 9 G) 34 ([(1, .int x1)]) ([.int y0, .ref (E.2.1 9 0)]) (s_X9_first_34 x1 y0 G) := by
  have hEK := X.2.2.2.2.2.2.1
  unfold s_X9_first_34
  refine cr_putG X (cr_m0 E) 9 rfl rfl rfl i_X9_first_X9 tyX9 tyX9_ok nmX9 (by decide) k_X9_first_3 rfl rfl rfl (Nat.le_of_ble_eq_true rfl) dX9_first_34 (fun G34_3 => ?_)
  refine cr_iload_n X 0 rfl dX9_first_37 ?_
  refine cr_iconst X (0 : Int32) (by decide) dX9_first_38 ?_
  refine cr_bipush X (9 : Int32) (by decide) dX9_first_39 ?_
  refine cr_callS X (As := [.int x1, .int ((0 : Int32)), .int ((9 : Int32))]) (rest := []) (c_X9_within Γ.2.1 E hEK ((cr_us S0 9 G34_3)) x1 ((0 : Int32)) ((9 : Int32))) 3 gX9_first_X9_within rfl rfl rfl (by decide +kernel) ⟨Nat.le_of_ble_eq_true rfl, Nat.le_of_ble_eq_true rfl⟩ (by decide) rfl rfl (Nat.le_of_ble_eq_true rfl) dX9_first_41 (fun r41_4 => ?_)
  show cr_P Γ E 2 _ 0 0 (cr_us S0 9 G34_3) 44 ([(1, .int x1)]) ([.int (cr_b r41_4)]) _
  exact cr_zret X r41_4 rfl rfl rfl dX9_first_44
set_option maxHeartbeats 4000000 in
set_option maxRecDepth 100000 in
theorem c_X9_first (l : Launch) (E : cr_E) (hEK : cr_EK E) (S0 : cr_S) (G : cr_G) (p1 : Int32) : cr_M l E yX9_first wsX9_first rm_X9_first [.ref (E.2.1 9 0), .int p1] (cr_us S0 9 G) (cr_vBG S0 9) (s_X9_first p1 G) := by
  refine cr_enter (cc := cX9_first) (nL := 2) (rt := (some .boolean)) hEK (by decide) rfl (Nat.le_of_ble_eq_true rfl) (fun Γ hΓ X => ?_)
  subst hΓ
  have X : cr_X Γ E cX9_first 2 RX9 wsX9_first rm_X9_first (some .boolean) := X
  unfold s_X9_first
  show cr_P Γ E 2 _ 0 0 (cr_us S0 9 G) 0 ([(0, .ref (E.2.1 9 0)), (1, .int p1)]) [] _
  refine cr_aload_n X 0 rfl dX9_first_0 ?_
  refine cr_iload_n X 1 rfl dX9_first_1 ?_
  refine cr_putG X (cr_m0 E) 10 rfl rfl rfl i_X9_first_X9 tyX9 tyX9_ok nmX9 (by decide) k_X9_first_1 rfl rfl rfl (Nat.le_of_ble_eq_true rfl) dX9_first_2 (fun G2_1 => ?_)
  refine cr_aload_n X 0 rfl dX9_first_5 ?_
  refine cr_iconst X (1 : Int32) (by decide) dX9_first_6 ?_
  refine cr_putG X (cr_m0 E) 11 rfl rfl rfl i_X9_first_X9 tyX9 tyX9_ok nmX9 (by decide) k_X9_first_2 rfl rfl rfl (Nat.le_of_ble_eq_true rfl) dX9_first_7 (fun G7_2 => ?_)
  refine cr_aload_n X 0 rfl dX9_first_10 ?_
  refine cr_iload_n X 1 rfl dX9_first_11 ?_
  refine cr_if_eq X 20 dX9_first_12 rfl ?_ ?_
  · refine cr_iconst X (3 : Int32) (by decide) dX9_first_20 ?_
    refine cr_goto X 34 dX9_first_21 rfl ?_
    refine cr_sub (lv' := [(1, .int p1)]) [1] rfl ?_
    exact b_X9_first_34 X S0 p1 ((3 : Int32)) G7_2
  · refine cr_iload_n X 1 rfl dX9_first_15 ?_
    refine cr_iconst X (3 : Int32) (by decide) dX9_first_16 ?_
    refine cr_icmp_le X 24 dX9_first_17 rfl ?_ ?_
    · refine cr_iload_n X 1 rfl dX9_first_24 ?_
      refine cr_iconst X (3 : Int32) (by decide) dX9_first_25 ?_
      refine cr_icmp_ne X 33 dX9_first_26 rfl ?_ ?_
      · refine cr_iconst X (1 : Int32) (by decide) dX9_first_33 ?_
        refine cr_sub (lv' := [(1, .int p1)]) [1] rfl ?_
        exact b_X9_first_34 X S0 p1 ((1 : Int32)) G7_2
      · refine cr_iconst X (2 : Int32) (by decide) dX9_first_29 ?_
        refine cr_goto X 34 dX9_first_30 rfl ?_
        refine cr_sub (lv' := [(1, .int p1)]) [1] rfl ?_
        exact b_X9_first_34 X S0 p1 ((2 : Int32)) G7_2
    · refine cr_iconst X (3 : Int32) (by decide) dX9_first_20 ?_
      refine cr_goto X 34 dX9_first_21 rfl ?_
      refine cr_sub (lv' := [(1, .int p1)]) [1] rfl ?_
      exact b_X9_first_34 X S0 p1 ((3 : Int32)) G7_2
theorem c_X9_first_S (l : Launch) (E : cr_E) (hEK : cr_EK E) (S : cr_S) (p1 : Int32) : cr_M l E yX9_first wsX9_first rm_X9_first [.ref (E.2.1 9 0), .int p1] S (cr_vBG S 9) (s_X9_first  p1 (S.1 9)) := by
  have h := c_X9_first l E hEK S (S.1 9) p1
  rw [cr_us_self] at h
  exact h
theorem k_X9_second_1 : (Cond.fieldLink RX9 107 "CraneCampaignModel" "number" "I") ∈ wsX9_second := List.mem_of_getElem? (i := 1) (by rfl)
theorem k_X9_second_2 : (Cond.fieldLink RX9 110 "CraneCampaignModel" "state" "I") ∈ wsX9_second := List.mem_of_getElem? (i := 2) (by rfl)
theorem i_X9_second_X9 : ∀ w ∈ wsX90, w ∈ wsX9_second := by decide +kernel
abbrev rm_X9_second : Room := { frames := 0, cells := 0, slots := 0, locals := 0 }
set_option maxHeartbeats 4000000 in
set_option maxRecDepth 100000 in
theorem c_X9_second (l : Launch) (E : cr_E) (hEK : cr_EK E) (S0 : cr_S) (G : cr_G) (p1 : Int32) : cr_M l E yX9_second wsX9_second rm_X9_second [.ref (E.2.1 9 0), .int p1] (cr_us S0 9 G) (cr_vBG S0 9) (s_X9_second p1 G) := by
  refine cr_enter (cc := cX9_second) (nL := 2) (rt := (some .boolean)) hEK (by decide) rfl (Nat.le_of_ble_eq_true rfl) (fun Γ hΓ X => ?_)
  subst hΓ
  have X : cr_X Γ E cX9_second 2 RX9 wsX9_second rm_X9_second (some .boolean) := X
  unfold s_X9_second
  show cr_P Γ E 2 _ 0 0 (cr_us S0 9 G) 0 ([(0, .ref (E.2.1 9 0)), (1, .int p1)]) [] _
  refine cr_aload_n X 0 rfl dX9_second_0 ?_
  refine cr_bipush X (10 : Int32) (by decide) dX9_second_1 ?_
  refine cr_aload_n X 0 rfl dX9_second_3 ?_
  refine cr_get X ((cr_m0 E).at (cr_row S0 9 G 0) rfl) rfl i_X9_second_X9 10 (by decide) k_X9_second_1 rfl dX9_second_4 ?_
  refine cr_imul X dX9_second_7 ?_
  refine cr_iload_n X 1 rfl dX9_second_8 ?_
  refine cr_iadd X dX9_second_9 ?_
  refine cr_putG X (cr_m0 E) 10 rfl rfl rfl i_X9_second_X9 tyX9 tyX9_ok nmX9 (by decide) k_X9_second_1 rfl rfl rfl (Nat.le_of_ble_eq_true rfl) dX9_second_10 (fun G10_1 => ?_)
  refine cr_aload_n X 0 rfl dX9_second_13 ?_
  refine cr_iconst X (3 : Int32) (by decide) dX9_second_14 ?_
  refine cr_putG X (cr_m0 E) 9 rfl rfl rfl i_X9_second_X9 tyX9 tyX9_ok nmX9 (by decide) k_X9_second_2 rfl rfl rfl (Nat.le_of_ble_eq_true rfl) dX9_second_15 (fun G15_2 => ?_)
  refine cr_iconst X (1 : Int32) (by decide) dX9_second_18 ?_
  exact cr_zret X true rfl rfl rfl dX9_second_19
theorem c_X9_second_S (l : Launch) (E : cr_E) (hEK : cr_EK E) (S : cr_S) (p1 : Int32) : cr_M l E yX9_second wsX9_second rm_X9_second [.ref (E.2.1 9 0), .int p1] S (cr_vBG S 9) (s_X9_second  p1 (S.1 9)) := by
  have h := c_X9_second l E hEK S (S.1 9) p1
  rw [cr_us_self] at h
  exact h
theorem k_X9_often_1 : (Cond.fieldLink RX9 101 "CraneCampaignModel" "times" "I") ∈ wsX9_often := List.mem_of_getElem? (i := 1) (by rfl)
theorem k_X9_often_2 : (Cond.fieldLink RX9 110 "CraneCampaignModel" "state" "I") ∈ wsX9_often := List.mem_of_getElem? (i := 2) (by rfl)
theorem i_X9_often_X9 : ∀ w ∈ wsX90, w ∈ wsX9_often := by decide +kernel
abbrev rm_X9_often : Room := { frames := 1, cells := 0, slots := 0, locals := 22 }
set_option maxHeartbeats 4000000 in
set_option maxRecDepth 100000 in
theorem b_X9_often_37 {Γ : cr_C} {E : cr_E} (X : cr_X Γ E cX9_often 2 RX9 wsX9_often rm_X9_often (some .boolean)) (S0 : cr_S) (x1 : Int32) (y0 : Int32) (G : cr_G) : cr_P Γ E 2 (cr_F Γ E (cr_vBG S0 9)) 0 0 (cr_us S0 9 G) 37 ([(1, .int x1)]) ([.int y0, .ref (E.2.1 9 0)]) (s_X9_often_37 x1 y0 G) := by
  have hEK := X.2.2.2.2.2.2.1
  unfold s_X9_often_37
  refine cr_putG X (cr_m0 E) 9 rfl rfl rfl i_X9_often_X9 tyX9 tyX9_ok nmX9 (by decide) k_X9_often_2 rfl rfl rfl (Nat.le_of_ble_eq_true rfl) dX9_often_37 (fun G37_2 => ?_)
  refine cr_iload_n X 0 rfl dX9_often_40 ?_
  refine cr_iconst X (1 : Int32) (by decide) dX9_often_41 ?_
  refine cr_bipush X (9 : Int32) (by decide) dX9_often_42 ?_
  refine cr_callS X (As := [.int x1, .int ((1 : Int32)), .int ((9 : Int32))]) (rest := []) (c_X9_within Γ.2.1 E hEK ((cr_us S0 9 G37_2)) x1 ((1 : Int32)) ((9 : Int32))) 3 gX9_often_X9_within rfl rfl rfl (by decide +kernel) ⟨Nat.le_of_ble_eq_true rfl, Nat.le_of_ble_eq_true rfl⟩ (by decide) rfl rfl (Nat.le_of_ble_eq_true rfl) dX9_often_44 (fun r44_3 => ?_)
  show cr_P Γ E 2 _ 0 0 (cr_us S0 9 G37_2) 47 ([(1, .int x1)]) ([.int (cr_b r44_3)]) _
  exact cr_zret X r44_3 rfl rfl rfl dX9_often_47
set_option maxHeartbeats 4000000 in
set_option maxRecDepth 100000 in
theorem c_X9_often (l : Launch) (E : cr_E) (hEK : cr_EK E) (S0 : cr_S) (G : cr_G) (p1 : Int32) : cr_M l E yX9_often wsX9_often rm_X9_often [.ref (E.2.1 9 0), .int p1] (cr_us S0 9 G) (cr_vBG S0 9) (s_X9_often p1 G) := by
  refine cr_enter (cc := cX9_often) (nL := 2) (rt := (some .boolean)) hEK (by decide) rfl (Nat.le_of_ble_eq_true rfl) (fun Γ hΓ X => ?_)
  subst hΓ
  have X : cr_X Γ E cX9_often 2 RX9 wsX9_often rm_X9_often (some .boolean) := X
  unfold s_X9_often
  show cr_P Γ E 2 _ 0 0 (cr_us S0 9 G) 0 ([(0, .ref (E.2.1 9 0)), (1, .int p1)]) [] _
  refine cr_aload_n X 0 rfl dX9_often_0 ?_
  refine cr_iload_n X 1 rfl dX9_often_1 ?_
  refine cr_putG X (cr_m0 E) 11 rfl rfl rfl i_X9_often_X9 tyX9 tyX9_ok nmX9 (by decide) k_X9_often_1 rfl rfl rfl (Nat.le_of_ble_eq_true rfl) dX9_often_2 (fun G2_1 => ?_)
  refine cr_aload_n X 0 rfl dX9_often_5 ?_
  refine cr_iload_n X 1 rfl dX9_often_6 ?_
  refine cr_iconst X (1 : Int32) (by decide) dX9_often_7 ?_
  refine cr_icmp_ne X 15 dX9_often_8 rfl ?_ ?_
  · refine cr_iload_n X 1 rfl dX9_often_15 ?_
    refine cr_iconst X (4 : Int32) (by decide) dX9_often_16 ?_
    refine cr_icmp_ge X 25 dX9_often_17 rfl ?_ ?_
    · refine cr_iload_n X 1 rfl dX9_often_25 ?_
      refine cr_iconst X (4 : Int32) (by decide) dX9_often_26 ?_
      refine cr_icmp_ne X 35 dX9_often_27 rfl ?_ ?_
      · refine cr_bipush X (8 : Int32) (by decide) dX9_often_35 ?_
        refine cr_sub (lv' := [(1, .int p1)]) [1] rfl ?_
        exact b_X9_often_37 X S0 p1 ((8 : Int32)) G2_1
      · refine cr_bipush X (7 : Int32) (by decide) dX9_often_30 ?_
        refine cr_goto X 37 dX9_often_32 rfl ?_
        refine cr_sub (lv' := [(1, .int p1)]) [1] rfl ?_
        exact b_X9_often_37 X S0 p1 ((7 : Int32)) G2_1
    · refine cr_bipush X (6 : Int32) (by decide) dX9_often_20 ?_
      refine cr_goto X 37 dX9_often_22 rfl ?_
      refine cr_sub (lv' := [(1, .int p1)]) [1] rfl ?_
      exact b_X9_often_37 X S0 p1 ((6 : Int32)) G2_1
  · refine cr_iconst X (5 : Int32) (by decide) dX9_often_11 ?_
    refine cr_goto X 37 dX9_often_12 rfl ?_
    refine cr_sub (lv' := [(1, .int p1)]) [1] rfl ?_
    exact b_X9_often_37 X S0 p1 ((5 : Int32)) G2_1
theorem c_X9_often_S (l : Launch) (E : cr_E) (hEK : cr_EK E) (S : cr_S) (p1 : Int32) : cr_M l E yX9_often wsX9_often rm_X9_often [.ref (E.2.1 9 0), .int p1] S (cr_vBG S 9) (s_X9_often  p1 (S.1 9)) := by
  have h := c_X9_often l E hEK S (S.1 9) p1
  rw [cr_us_self] at h
  exact h
theorem k_X9_more_1 : (Cond.fieldLink RX9 101 "CraneCampaignModel" "times" "I") ∈ wsX9_more := List.mem_of_getElem? (i := 1) (by rfl)
theorem k_X9_more_2 : (Cond.fieldLink RX9 110 "CraneCampaignModel" "state" "I") ∈ wsX9_more := List.mem_of_getElem? (i := 2) (by rfl)
theorem i_X9_more_X9 : ∀ w ∈ wsX90, w ∈ wsX9_more := by decide +kernel
abbrev rm_X9_more : Room := { frames := 0, cells := 0, slots := 0, locals := 0 }
set_option maxHeartbeats 4000000 in
set_option maxRecDepth 100000 in
theorem c_X9_more (l : Launch) (E : cr_E) (hEK : cr_EK E) (S0 : cr_S) (G : cr_G) (p1 : Int32) : cr_M l E yX9_more wsX9_more rm_X9_more [.ref (E.2.1 9 0), .int p1] (cr_us S0 9 G) (cr_vBG S0 9) (s_X9_more p1 G) := by
  refine cr_enter (cc := cX9_more) (nL := 2) (rt := (some .boolean)) hEK (by decide) rfl (Nat.le_of_ble_eq_true rfl) (fun Γ hΓ X => ?_)
  subst hΓ
  have X : cr_X Γ E cX9_more 2 RX9 wsX9_more rm_X9_more (some .boolean) := X
  unfold s_X9_more
  show cr_P Γ E 2 _ 0 0 (cr_us S0 9 G) 0 ([(0, .ref (E.2.1 9 0)), (1, .int p1)]) [] _
  refine cr_aload_n X 0 rfl dX9_more_0 ?_
  refine cr_bipush X (10 : Int32) (by decide) dX9_more_1 ?_
  refine cr_aload_n X 0 rfl dX9_more_3 ?_
  refine cr_get X ((cr_m0 E).at (cr_row S0 9 G 0) rfl) rfl i_X9_more_X9 11 (by decide) k_X9_more_1 rfl dX9_more_4 ?_
  refine cr_imul X dX9_more_7 ?_
  refine cr_iload_n X 1 rfl dX9_more_8 ?_
  refine cr_iadd X dX9_more_9 ?_
  refine cr_putG X (cr_m0 E) 11 rfl rfl rfl i_X9_more_X9 tyX9 tyX9_ok nmX9 (by decide) k_X9_more_1 rfl rfl rfl (Nat.le_of_ble_eq_true rfl) dX9_more_10 (fun G10_1 => ?_)
  refine cr_aload_n X 0 rfl dX9_more_13 ?_
  refine cr_bipush X (8 : Int32) (by decide) dX9_more_14 ?_
  refine cr_putG X (cr_m0 E) 9 rfl rfl rfl i_X9_more_X9 tyX9 tyX9_ok nmX9 (by decide) k_X9_more_2 rfl rfl rfl (Nat.le_of_ble_eq_true rfl) dX9_more_16 (fun G16_2 => ?_)
  refine cr_iconst X (1 : Int32) (by decide) dX9_more_19 ?_
  exact cr_zret X true rfl rfl rfl dX9_more_20
theorem c_X9_more_S (l : Launch) (E : cr_E) (hEK : cr_EK E) (S : cr_S) (p1 : Int32) : cr_M l E yX9_more wsX9_more rm_X9_more [.ref (E.2.1 9 0), .int p1] S (cr_vBG S 9) (s_X9_more  p1 (S.1 9)) := by
  have h := c_X9_more l E hEK S (S.1 9) p1
  rw [cr_us_self] at h
  exact h
theorem k_X9_goes_1 : (Cond.fieldLink RX9 110 "CraneCampaignModel" "state" "I") ∈ wsX9_goes := List.mem_of_getElem? (i := 1) (by rfl)
theorem i_X9_goes_X9 : ∀ w ∈ wsX90, w ∈ wsX9_goes := by decide +kernel
abbrev rm_X9_goes : Room := { frames := 2, cells := 0, slots := 0, locals := 43 }
set_option maxHeartbeats 4000000 in
set_option maxRecDepth 100000 in
theorem c_X9_goes (l : Launch) (E : cr_E) (hEK : cr_EK E) (S0 : cr_S) (G : cr_G) (p1 : Int32) : cr_M l E yX9_goes wsX9_goes rm_X9_goes [.ref (E.2.1 9 0), .int p1] (cr_us S0 9 G) (cr_vBG S0 9) (s_X9_goes p1 G) := by
  refine cr_enter (cc := cX9_goes) (nL := 4) (rt := (some .boolean)) hEK (by decide) rfl (Nat.le_of_ble_eq_true rfl) (fun Γ hΓ X => ?_)
  subst hΓ
  have X : cr_X Γ E cX9_goes 4 RX9 wsX9_goes rm_X9_goes (some .boolean) := X
  unfold s_X9_goes
  show cr_P Γ E 4 _ 0 0 (cr_us S0 9 G) 0 ([(0, .ref (E.2.1 9 0)), (1, .int p1)]) [] _
  refine cr_iload_n X 1 rfl dX9_goes_0 ?_
  refine cr_bipush X (48 : Int32) (by decide) dX9_goes_1 ?_
  refine cr_isub X dX9_goes_3 ?_
  refine cr_istore_nb X (fun v4_1 => [(2, .int v4_1), (0, .ref (E.2.1 9 0)), (1, .int p1)]) (fun _ => rfl) (by decide) dX9_goes_4 (fun v4_1 => ?_)
  refine cr_iload_n X 0 rfl dX9_goes_5 ?_
  refine cr_iconst X (0 : Int32) (by decide) dX9_goes_6 ?_
  refine cr_bipush X (9 : Int32) (by decide) dX9_goes_7 ?_
  refine cr_callS X (As := [.int v4_1, .int ((0 : Int32)), .int ((9 : Int32))]) (rest := []) (c_X9_within Γ.2.1 E hEK ((cr_us S0 9 G)) v4_1 ((0 : Int32)) ((9 : Int32))) 3 gX9_goes_X9_within rfl rfl rfl (by decide +kernel) ⟨Nat.le_of_ble_eq_true rfl, Nat.le_of_ble_eq_true rfl⟩ (by decide) rfl rfl (Nat.le_of_ble_eq_true rfl) dX9_goes_9 (fun r9_2 => ?_)
  show cr_P Γ E 4 _ 0 0 (cr_us S0 9 G) 12 ([(2, .int v4_1), (0, .ref (E.2.1 9 0)), (1, .int p1)]) ([.int (cr_b r9_2)]) _
  refine cr_istore_n X ([(3, .int (cr_b r9_2)), (2, .int v4_1), (0, .ref (E.2.1 9 0)), (1, .int p1)]) rfl (by decide) dX9_goes_12 ?_
  refine cr_aload_n X 2 rfl dX9_goes_13 ?_
  refine cr_get X ((cr_m0 E).at (cr_row S0 9 G 0) rfl) rfl i_X9_goes_X9 9 (by decide) k_X9_goes_1 rfl dX9_goes_14 ?_
  refine cr_ite (fun h17_0 => ?_) (fun n17_0 => ?_)
  · refine cr_tin X 0 64 h17_0 dX9_goes_17 (by decide) rfl rfl ?_
    refine cr_aload_n X 2 rfl dX9_goes_64 ?_
    refine cr_iload_n X 1 rfl dX9_goes_65 ?_
    refine cr_callV X (As := [.int v4_1]) (rest := []) (c_X9_first Γ.2.1 E hEK S0 G v4_1) ((cr_m0 E).at (cr_row S0 9 G 0) rfl) rfl 1 gX9_goes_X9_first rfl rfl rfl (by decide +kernel) ⟨Nat.le_of_ble_eq_true rfl, Nat.le_of_ble_eq_true rfl⟩ (by decide) rfl rfl (Nat.le_of_ble_eq_true rfl) dX9_goes_66 (fun r66_3 => ?_)
    show cr_P Γ E 4 _ 0 0 (cr_us S0 9 r66_3.2) 69 ([(3, .int (cr_b r9_2)), (2, .int v4_1), (0, .ref (E.2.1 9 0)), (1, .int p1)]) ([.int (cr_b r66_3.1)]) _
    exact cr_zret X r66_3.1 rfl rfl rfl dX9_goes_69
  · refine cr_ite (fun h17_1 => ?_) (fun n17_1 => ?_)
    · refine cr_tin X 1 70 h17_1 dX9_goes_17 (by decide) rfl rfl ?_
      refine cr_iload_n X 0 rfl dX9_goes_70 ?_
      refine cr_ifb_eq X 82 dX9_goes_71 rfl ?_ ?_
      · refine cr_aload_n X 2 rfl dX9_goes_82 ?_
        refine cr_iload_n X 3 rfl dX9_goes_83 ?_
        refine cr_callV X (As := [.int p1]) (rest := []) (c_X9_ends Γ.2.1 E hEK S0 G p1) ((cr_m0 E).at (cr_row S0 9 G 0) rfl) rfl 1 gX9_goes_X9_ends rfl rfl rfl (by decide +kernel) ⟨Nat.le_of_ble_eq_true rfl, Nat.le_of_ble_eq_true rfl⟩ (by decide) rfl rfl (Nat.le_of_ble_eq_true rfl) dX9_goes_84 (fun r84_4 => ?_)
        show cr_P Γ E 4 _ 0 0 (cr_us S0 9 r84_4.2) 87 ([(3, .int (cr_b r9_2)), (2, .int v4_1), (0, .ref (E.2.1 9 0)), (1, .int p1)]) ([.int (cr_b r84_4.1)]) _
        exact cr_zret X r84_4.1 rfl rfl rfl dX9_goes_87
      · refine cr_aload_n X 2 rfl dX9_goes_74 ?_
        refine cr_iload_n X 1 rfl dX9_goes_75 ?_
        refine cr_callV X (As := [.int v4_1]) (rest := []) (c_X9_second Γ.2.1 E hEK S0 G v4_1) ((cr_m0 E).at (cr_row S0 9 G 0) rfl) rfl 1 gX9_goes_X9_second rfl rfl rfl (by decide +kernel) ⟨Nat.le_of_ble_eq_true rfl, Nat.le_of_ble_eq_true rfl⟩ (by decide) rfl rfl (Nat.le_of_ble_eq_true rfl) dX9_goes_76 (fun r76_5 => ?_)
        show cr_P Γ E 4 _ 0 0 (cr_us S0 9 r76_5.2) 79 ([(3, .int (cr_b r9_2)), (2, .int v4_1), (0, .ref (E.2.1 9 0)), (1, .int p1)]) ([.int (cr_b r76_5.1)]) _
        refine cr_goto X 87 dX9_goes_79 rfl ?_
        exact cr_zret X r76_5.1 rfl rfl rfl dX9_goes_87
    · refine cr_ite (fun h17_2 => ?_) (fun n17_2 => ?_)
      · refine cr_tin X 2 88 h17_2 dX9_goes_17 (by decide) rfl rfl ?_
        refine cr_iload_n X 1 rfl dX9_goes_88 ?_
        refine cr_if_ne X 100 dX9_goes_89 rfl ?_ ?_
        · refine cr_aload_n X 2 rfl dX9_goes_100 ?_
          refine cr_iload_n X 3 rfl dX9_goes_101 ?_
          refine cr_callV X (As := [.int p1]) (rest := []) (c_X9_ends Γ.2.1 E hEK S0 G p1) ((cr_m0 E).at (cr_row S0 9 G 0) rfl) rfl 1 gX9_goes_X9_ends rfl rfl rfl (by decide +kernel) ⟨Nat.le_of_ble_eq_true rfl, Nat.le_of_ble_eq_true rfl⟩ (by decide) rfl rfl (Nat.le_of_ble_eq_true rfl) dX9_goes_102 (fun r102_6 => ?_)
          show cr_P Γ E 4 _ 0 0 (cr_us S0 9 r102_6.2) 105 ([(3, .int (cr_b r9_2)), (2, .int v4_1), (0, .ref (E.2.1 9 0)), (1, .int p1)]) ([.int (cr_b r102_6.1)]) _
          exact cr_zret X r102_6.1 rfl rfl rfl dX9_goes_105
        · refine cr_aload_n X 2 rfl dX9_goes_92 ?_
          refine cr_iload_n X 1 rfl dX9_goes_93 ?_
          refine cr_callV X (As := [.int v4_1]) (rest := []) (c_X9_second Γ.2.1 E hEK S0 G v4_1) ((cr_m0 E).at (cr_row S0 9 G 0) rfl) rfl 1 gX9_goes_X9_second rfl rfl rfl (by decide +kernel) ⟨Nat.le_of_ble_eq_true rfl, Nat.le_of_ble_eq_true rfl⟩ (by decide) rfl rfl (Nat.le_of_ble_eq_true rfl) dX9_goes_94 (fun r94_7 => ?_)
          show cr_P Γ E 4 _ 0 0 (cr_us S0 9 r94_7.2) 97 ([(3, .int (cr_b r9_2)), (2, .int v4_1), (0, .ref (E.2.1 9 0)), (1, .int p1)]) ([.int (cr_b r94_7.1)]) _
          refine cr_goto X 105 dX9_goes_97 rfl ?_
          exact cr_zret X r94_7.1 rfl rfl rfl dX9_goes_105
      · refine cr_ite (fun h17_3 => ?_) (fun n17_3 => ?_)
        · refine cr_tin X 3 106 h17_3 dX9_goes_17 (by decide) rfl rfl ?_
          refine cr_aload_n X 2 rfl dX9_goes_106 ?_
          refine cr_iload_n X 3 rfl dX9_goes_107 ?_
          refine cr_callV X (As := [.int p1]) (rest := []) (c_X9_ends Γ.2.1 E hEK S0 G p1) ((cr_m0 E).at (cr_row S0 9 G 0) rfl) rfl 1 gX9_goes_X9_ends rfl rfl rfl (by decide +kernel) ⟨Nat.le_of_ble_eq_true rfl, Nat.le_of_ble_eq_true rfl⟩ (by decide) rfl rfl (Nat.le_of_ble_eq_true rfl) dX9_goes_108 (fun r108_8 => ?_)
          show cr_P Γ E 4 _ 0 0 (cr_us S0 9 r108_8.2) 111 ([(3, .int (cr_b r9_2)), (2, .int v4_1), (0, .ref (E.2.1 9 0)), (1, .int p1)]) ([.int (cr_b r108_8.1)]) _
          exact cr_zret X r108_8.1 rfl rfl rfl dX9_goes_111
        · refine cr_ite (fun h17_4 => ?_) (fun n17_4 => ?_)
          · refine cr_tin X 4 112 h17_4 dX9_goes_17 (by decide) rfl rfl ?_
            refine cr_aload_n X 2 rfl dX9_goes_112 ?_
            refine cr_iload_n X 1 rfl dX9_goes_113 ?_
            refine cr_callV X (As := [.int v4_1]) (rest := []) (c_X9_often Γ.2.1 E hEK S0 G v4_1) ((cr_m0 E).at (cr_row S0 9 G 0) rfl) rfl 1 gX9_goes_X9_often rfl rfl rfl (by decide +kernel) ⟨Nat.le_of_ble_eq_true rfl, Nat.le_of_ble_eq_true rfl⟩ (by decide) rfl rfl (Nat.le_of_ble_eq_true rfl) dX9_goes_114 (fun r114_9 => ?_)
            show cr_P Γ E 4 _ 0 0 (cr_us S0 9 r114_9.2) 117 ([(3, .int (cr_b r9_2)), (2, .int v4_1), (0, .ref (E.2.1 9 0)), (1, .int p1)]) ([.int (cr_b r114_9.1)]) _
            exact cr_zret X r114_9.1 rfl rfl rfl dX9_goes_117
          · refine cr_ite (fun h17_5 => ?_) (fun n17_5 => ?_)
            · refine cr_tin X 5 118 h17_5 dX9_goes_17 (by decide) rfl rfl ?_
              refine cr_iload_n X 0 rfl dX9_goes_118 ?_
              refine cr_ifb_eq X 134 dX9_goes_119 rfl ?_ ?_
              · refine cr_iconst X (0 : Int32) (by decide) dX9_goes_134 ?_
                exact cr_zret X false rfl rfl rfl dX9_goes_135
              · refine cr_aload_n X 2 rfl dX9_goes_122 ?_
                refine cr_iload_n X 1 rfl dX9_goes_123 ?_
                refine cr_callV X (As := [.int v4_1]) (rest := []) (c_X9_more Γ.2.1 E hEK S0 G v4_1) ((cr_m0 E).at (cr_row S0 9 G 0) rfl) rfl 1 gX9_goes_X9_more rfl rfl rfl (by decide +kernel) ⟨Nat.le_of_ble_eq_true rfl, Nat.le_of_ble_eq_true rfl⟩ (by decide) rfl rfl (Nat.le_of_ble_eq_true rfl) dX9_goes_124 (fun r124_10 => ?_)
                show cr_P Γ E 4 _ 0 0 (cr_us S0 9 r124_10.2) 127 ([(3, .int (cr_b r9_2)), (2, .int v4_1), (0, .ref (E.2.1 9 0)), (1, .int p1)]) ([.int (cr_b r124_10.1)]) _
                refine cr_ifb_eq X 134 dX9_goes_127 rfl ?_ ?_
                · refine cr_iconst X (0 : Int32) (by decide) dX9_goes_134 ?_
                  exact cr_zret X false rfl rfl rfl dX9_goes_135
                · refine cr_iconst X (1 : Int32) (by decide) dX9_goes_130 ?_
                  refine cr_goto X 135 dX9_goes_131 rfl ?_
                  exact cr_zret X true rfl rfl rfl dX9_goes_135
            · refine cr_ite (fun h17_6 => ?_) (fun n17_6 => ?_)
              · refine cr_tin X 6 136 h17_6 dX9_goes_17 (by decide) rfl rfl ?_
                refine cr_iload_n X 0 rfl dX9_goes_136 ?_
                refine cr_ifb_eq X 148 dX9_goes_137 rfl ?_ ?_
                · refine cr_iload_n X 3 rfl dX9_goes_148 ?_
                  refine cr_bipush X (44 : Int32) (by decide) dX9_goes_149 ?_
                  refine cr_icmp_ne X 166 dX9_goes_151 rfl ?_ ?_
                  · refine cr_iconst X (0 : Int32) (by decide) dX9_goes_166 ?_
                    exact cr_zret X false rfl rfl rfl dX9_goes_167
                  · refine cr_aload_n X 2 rfl dX9_goes_154 ?_
                    refine cr_iload_n X 3 rfl dX9_goes_155 ?_
                    refine cr_callV X (As := [.int p1]) (rest := []) (c_X9_ends Γ.2.1 E hEK S0 G p1) ((cr_m0 E).at (cr_row S0 9 G 0) rfl) rfl 1 gX9_goes_X9_ends rfl rfl rfl (by decide +kernel) ⟨Nat.le_of_ble_eq_true rfl, Nat.le_of_ble_eq_true rfl⟩ (by decide) rfl rfl (Nat.le_of_ble_eq_true rfl) dX9_goes_156 (fun r156_11 => ?_)
                    show cr_P Γ E 4 _ 0 0 (cr_us S0 9 r156_11.2) 159 ([(3, .int (cr_b r9_2)), (2, .int v4_1), (0, .ref (E.2.1 9 0)), (1, .int p1)]) ([.int (cr_b r156_11.1)]) _
                    refine cr_ifb_eq X 166 dX9_goes_159 rfl ?_ ?_
                    · refine cr_iconst X (0 : Int32) (by decide) dX9_goes_166 ?_
                      exact cr_zret X false rfl rfl rfl dX9_goes_167
                    · refine cr_iconst X (1 : Int32) (by decide) dX9_goes_162 ?_
                      refine cr_goto X 167 dX9_goes_163 rfl ?_
                      exact cr_zret X true rfl rfl rfl dX9_goes_167
                · refine cr_aload_n X 2 rfl dX9_goes_140 ?_
                  refine cr_iload_n X 1 rfl dX9_goes_141 ?_
                  refine cr_callV X (As := [.int v4_1]) (rest := []) (c_X9_more Γ.2.1 E hEK S0 G v4_1) ((cr_m0 E).at (cr_row S0 9 G 0) rfl) rfl 1 gX9_goes_X9_more rfl rfl rfl (by decide +kernel) ⟨Nat.le_of_ble_eq_true rfl, Nat.le_of_ble_eq_true rfl⟩ (by decide) rfl rfl (Nat.le_of_ble_eq_true rfl) dX9_goes_142 (fun r142_12 => ?_)
                  show cr_P Γ E 4 _ 0 0 (cr_us S0 9 r142_12.2) 145 ([(3, .int (cr_b r9_2)), (2, .int v4_1), (0, .ref (E.2.1 9 0)), (1, .int p1)]) ([.int (cr_b r142_12.1)]) _
                  refine cr_goto X 167 dX9_goes_145 rfl ?_
                  exact cr_zret X r142_12.1 rfl rfl rfl dX9_goes_167
              · refine cr_ite (fun h17_7 => ?_) (fun n17_7 => ?_)
                · refine cr_tin X 7 168 h17_7 dX9_goes_17 (by decide) rfl rfl ?_
                  refine cr_iload_n X 1 rfl dX9_goes_168 ?_
                  refine cr_iconst X (0 : Int32) (by decide) dX9_goes_169 ?_
                  refine cr_bipush X (8 : Int32) (by decide) dX9_goes_170 ?_
                  refine cr_callS X (As := [.int v4_1, .int ((0 : Int32)), .int ((8 : Int32))]) (rest := []) (c_X9_within Γ.2.1 E hEK ((cr_us S0 9 G)) v4_1 ((0 : Int32)) ((8 : Int32))) 3 gX9_goes_X9_within rfl rfl rfl (by decide +kernel) ⟨Nat.le_of_ble_eq_true rfl, Nat.le_of_ble_eq_true rfl⟩ (by decide) rfl rfl (Nat.le_of_ble_eq_true rfl) dX9_goes_172 (fun r172_13 => ?_)
                  show cr_P Γ E 4 _ 0 0 (cr_us S0 9 G) 175 ([(3, .int (cr_b r9_2)), (2, .int v4_1), (0, .ref (E.2.1 9 0)), (1, .int p1)]) ([.int (cr_b r172_13)]) _
                  refine cr_ifb_eq X 186 dX9_goes_175 rfl ?_ ?_
                  · refine cr_iload_n X 3 rfl dX9_goes_186 ?_
                    refine cr_bipush X (44 : Int32) (by decide) dX9_goes_187 ?_
                    refine cr_icmp_ne X 204 dX9_goes_189 rfl ?_ ?_
                    · refine cr_iconst X (0 : Int32) (by decide) dX9_goes_204 ?_
                      exact cr_zret X false rfl rfl rfl dX9_goes_205
                    · refine cr_aload_n X 2 rfl dX9_goes_192 ?_
                      refine cr_iload_n X 3 rfl dX9_goes_193 ?_
                      refine cr_callV X (As := [.int p1]) (rest := []) (c_X9_ends Γ.2.1 E hEK S0 G p1) ((cr_m0 E).at (cr_row S0 9 G 0) rfl) rfl 1 gX9_goes_X9_ends rfl rfl rfl (by decide +kernel) ⟨Nat.le_of_ble_eq_true rfl, Nat.le_of_ble_eq_true rfl⟩ (by decide) rfl rfl (Nat.le_of_ble_eq_true rfl) dX9_goes_194 (fun r194_14 => ?_)
                      show cr_P Γ E 4 _ 0 0 (cr_us S0 9 r194_14.2) 197 ([(3, .int (cr_b r9_2)), (2, .int v4_1), (0, .ref (E.2.1 9 0)), (1, .int p1)]) ([.int (cr_b r194_14.1)]) _
                      refine cr_ifb_eq X 204 dX9_goes_197 rfl ?_ ?_
                      · refine cr_iconst X (0 : Int32) (by decide) dX9_goes_204 ?_
                        exact cr_zret X false rfl rfl rfl dX9_goes_205
                      · refine cr_iconst X (1 : Int32) (by decide) dX9_goes_200 ?_
                        refine cr_goto X 205 dX9_goes_201 rfl ?_
                        exact cr_zret X true rfl rfl rfl dX9_goes_205
                  · refine cr_aload_n X 2 rfl dX9_goes_178 ?_
                    refine cr_iload_n X 1 rfl dX9_goes_179 ?_
                    refine cr_callV X (As := [.int v4_1]) (rest := []) (c_X9_more Γ.2.1 E hEK S0 G v4_1) ((cr_m0 E).at (cr_row S0 9 G 0) rfl) rfl 1 gX9_goes_X9_more rfl rfl rfl (by decide +kernel) ⟨Nat.le_of_ble_eq_true rfl, Nat.le_of_ble_eq_true rfl⟩ (by decide) rfl rfl (Nat.le_of_ble_eq_true rfl) dX9_goes_180 (fun r180_15 => ?_)
                    show cr_P Γ E 4 _ 0 0 (cr_us S0 9 r180_15.2) 183 ([(3, .int (cr_b r9_2)), (2, .int v4_1), (0, .ref (E.2.1 9 0)), (1, .int p1)]) ([.int (cr_b r180_15.1)]) _
                    refine cr_goto X 205 dX9_goes_183 rfl ?_
                    exact cr_zret X r180_15.1 rfl rfl rfl dX9_goes_205
                · refine cr_tout X 206 dX9_goes_17 (by have q0 := lv_neT (a := 0) n17_0 rfl; have q1 := lv_neT (a := 1) n17_1 rfl; have q2 := lv_neT (a := 2) n17_2 rfl; have q3 := lv_neT (a := 3) n17_3 rfl; have q4 := lv_neT (a := 4) n17_4 rfl; have q5 := lv_neT (a := 5) n17_5 rfl; have q6 := lv_neT (a := 6) n17_6 rfl; have q7 := lv_neT (a := 7) n17_7 rfl; omega) rfl ?_
                  refine cr_iload_n X 3 rfl dX9_goes_206 ?_
                  refine cr_bipush X (44 : Int32) (by decide) dX9_goes_207 ?_
                  refine cr_icmp_ne X 224 dX9_goes_209 rfl ?_ ?_
                  · refine cr_iconst X (0 : Int32) (by decide) dX9_goes_224 ?_
                    exact cr_zret X false rfl rfl rfl dX9_goes_225
                  · refine cr_aload_n X 2 rfl dX9_goes_212 ?_
                    refine cr_iload_n X 3 rfl dX9_goes_213 ?_
                    refine cr_callV X (As := [.int p1]) (rest := []) (c_X9_ends Γ.2.1 E hEK S0 G p1) ((cr_m0 E).at (cr_row S0 9 G 0) rfl) rfl 1 gX9_goes_X9_ends rfl rfl rfl (by decide +kernel) ⟨Nat.le_of_ble_eq_true rfl, Nat.le_of_ble_eq_true rfl⟩ (by decide) rfl rfl (Nat.le_of_ble_eq_true rfl) dX9_goes_214 (fun r214_16 => ?_)
                    show cr_P Γ E 4 _ 0 0 (cr_us S0 9 r214_16.2) 217 ([(3, .int (cr_b r9_2)), (2, .int v4_1), (0, .ref (E.2.1 9 0)), (1, .int p1)]) ([.int (cr_b r214_16.1)]) _
                    refine cr_ifb_eq X 224 dX9_goes_217 rfl ?_ ?_
                    · refine cr_iconst X (0 : Int32) (by decide) dX9_goes_224 ?_
                      exact cr_zret X false rfl rfl rfl dX9_goes_225
                    · refine cr_iconst X (1 : Int32) (by decide) dX9_goes_220 ?_
                      refine cr_goto X 225 dX9_goes_221 rfl ?_
                      exact cr_zret X true rfl rfl rfl dX9_goes_225
theorem c_X9_goes_S (l : Launch) (E : cr_E) (hEK : cr_EK E) (S : cr_S) (p1 : Int32) : cr_M l E yX9_goes wsX9_goes rm_X9_goes [.ref (E.2.1 9 0), .int p1] S (cr_vBG S 9) (s_X9_goes  p1 (S.1 9)) := by
  have h := c_X9_goes l E hEK S (S.1 9) p1
  rw [cr_us_self] at h
  exact h
theorem k_X9_readText_1 : (Cond.fieldLink RX9 110 "CraneCampaignModel" "state" "I") ∈ wsX9_readText := List.mem_of_getElem? (i := 1) (by rfl)
theorem k_X9_readText_2 : (Cond.fieldLink RX9 104 "CraneCampaignModel" "all" "I") ∈ wsX9_readText := List.mem_of_getElem? (i := 2) (by rfl)
theorem k_X9_readText_3 : (Cond.fieldLink RX9 131 "CraneCampaignModel" "isWhole" "Z") ∈ wsX9_readText := List.mem_of_getElem? (i := 3) (by rfl)
theorem k_X9_readText_4 : (Cond.fieldLink RX9 98 "CraneCampaignModel" "length" "I") ∈ wsX9_readText := List.mem_of_getElem? (i := 4) (by rfl)
theorem k_X9_readText_5 : (Cond.fieldLink RX9 19 "CraneCampaignModel" "text" "[I") ∈ wsX9_readText := List.mem_of_getElem? (i := 5) (by rfl)
theorem i_X9_readText_X9 : ∀ w ∈ wsX90, w ∈ wsX9_readText := by decide +kernel
abbrev rm_X9_readText : Room := { frames := 3, cells := 0, slots := 0, locals := 66 }
set_option maxHeartbeats 4000000 in
set_option maxRecDepth 100000 in
theorem b_X9_readText_74 {Γ : cr_C} {E : cr_E} (X : cr_X Γ E cX9_readText 2 RX9 wsX9_readText rm_X9_readText (some .int)) (S0 : cr_S)  (G : cr_G) : cr_P Γ E 2 (cr_F Γ E (cr_vIG S0 9)) 0 0 (cr_us S0 9 G) 74 ([(0, .ref (E.2.1 9 0))]) ([.ref (E.2.1 9 0)]) (s_X9_readText_74 G) := by
  have hEK := X.2.2.2.2.2.2.1
  unfold s_X9_readText_74
  refine cr_iconst X (0 : Int32) (by decide) dX9_readText_74 ?_
  refine cr_putG X (cr_m0 E) 13 rfl rfl rfl i_X9_readText_X9 tyX9 tyX9_ok nmX9 (by decide) k_X9_readText_3 rfl rfl rfl (Nat.le_of_ble_eq_true rfl) dX9_readText_75 (fun G75_8 => ?_)
  refine cr_aload_n X 0 rfl dX9_readText_78 ?_
  refine cr_get X ((cr_m0 E).at (cr_row S0 9 G75_8 0) rfl) rfl i_X9_readText_X9 13 (by decide) k_X9_readText_3 rfl dX9_readText_79 ?_
  refine cr_if_eq X 89 dX9_readText_82 rfl ?_ ?_
  · refine cr_aload_n X 0 rfl dX9_readText_89 ?_
    refine cr_get X ((cr_m0 E).at (cr_row S0 9 G75_8 0) rfl) rfl i_X9_readText_X9 6 (by decide) k_X9_readText_4 rfl dX9_readText_90 ?_
    exact cr_iret X rfl rfl dX9_readText_93
  · refine cr_aload_n X 0 rfl dX9_readText_85 ?_
    refine cr_callV X (As := []) (rest := []) (c_X9_close Γ.2.1 E hEK S0 G75_8) ((cr_m0 E).at (cr_row S0 9 G75_8 0) rfl) rfl 0 gX9_readText_X9_close rfl rfl rfl (by decide +kernel) ⟨Nat.le_of_ble_eq_true rfl, Nat.le_of_ble_eq_true rfl⟩ (by decide) rfl rfl (Nat.le_of_ble_eq_true rfl) dX9_readText_86 (fun r86_9 => ?_)
    show cr_P Γ E 2 _ 0 0 (cr_us S0 9 r86_9) 89 ([(0, .ref (E.2.1 9 0))]) ([]) _
    refine cr_aload_n X 0 rfl dX9_readText_89 ?_
    refine cr_get X ((cr_m0 E).at (cr_row S0 9 r86_9 0) rfl) rfl i_X9_readText_X9 6 (by decide) k_X9_readText_4 rfl dX9_readText_90 ?_
    exact cr_iret X rfl rfl dX9_readText_93
set_option maxHeartbeats 4000000 in
set_option maxRecDepth 100000 in
theorem b_X9_readText_17 {Γ : cr_C} {E : cr_E} (X : cr_X Γ E cX9_readText 2 RX9 wsX9_readText rm_X9_readText (some .int)) (S0 : cr_S) : ∀ (n : Nat) (x1 : Int32) (G : cr_G), cr_P Γ E 2 (cr_F Γ E (cr_vIG S0 9)) 0 0 (cr_us S0 9 G) 17 ([(0, .ref (E.2.1 9 0)), (1, .int x1)]) ([]) (s_X9_readText_17 n x1 G) := by
  have hEK := X.2.2.2.2.2.2.1
  intro n
  induction n with
  | zero => intro x1 G; exact cr_none
  | succ n ih =>
    intro x1 G
    rw [s_X9_readText_17]
    refine cr_iload_n X 1 rfl dX9_readText_17 ?_
    refine cr_aload_n X 0 rfl dX9_readText_18 ?_
    refine cr_get X ((cr_m0 E).at (cr_row S0 9 G 0) rfl) rfl i_X9_readText_X9 6 (by decide) k_X9_readText_4 rfl dX9_readText_19 ?_
    refine cr_icmp_ge X 46 dX9_readText_22 rfl ?_ ?_
    · refine cr_aload_n X 0 rfl dX9_readText_46 ?_
      refine cr_aload_n X 0 rfl dX9_readText_47 ?_
      refine cr_get X ((cr_m0 E).at (cr_row S0 9 G 0) rfl) rfl i_X9_readText_X9 9 (by decide) k_X9_readText_1 rfl dX9_readText_48 ?_
      refine cr_if_eq X 74 dX9_readText_51 rfl ?_ ?_
      · refine cr_sub (lv' := [(0, .ref (E.2.1 9 0))]) [0] rfl ?_
        exact b_X9_readText_74 X S0 G
      · refine cr_aload_n X 0 rfl dX9_readText_54 ?_
        refine cr_get X ((cr_m0 E).at (cr_row S0 9 G 0) rfl) rfl i_X9_readText_X9 9 (by decide) k_X9_readText_1 rfl dX9_readText_55 ?_
        refine cr_iconst X (4 : Int32) (by decide) dX9_readText_58 ?_
        refine cr_icmp_eq X 74 dX9_readText_59 rfl ?_ ?_
        · refine cr_sub (lv' := [(0, .ref (E.2.1 9 0))]) [0] rfl ?_
          exact b_X9_readText_74 X S0 G
        · refine cr_aload_n X 0 rfl dX9_readText_62 ?_
          refine cr_get X ((cr_m0 E).at (cr_row S0 9 G 0) rfl) rfl i_X9_readText_X9 9 (by decide) k_X9_readText_1 rfl dX9_readText_63 ?_
          refine cr_iconst X (5 : Int32) (by decide) dX9_readText_66 ?_
          refine cr_icmp_eq X 74 dX9_readText_67 rfl ?_ ?_
          · refine cr_sub (lv' := [(0, .ref (E.2.1 9 0))]) [0] rfl ?_
            exact b_X9_readText_74 X S0 G
          · refine cr_iconst X (1 : Int32) (by decide) dX9_readText_70 ?_
            refine cr_goto X 75 dX9_readText_71 rfl ?_
            refine cr_putG X (cr_m0 E) 13 rfl rfl rfl i_X9_readText_X9 tyX9 tyX9_ok nmX9 (by decide) k_X9_readText_3 rfl rfl rfl (Nat.le_of_ble_eq_true rfl) dX9_readText_75 (fun G75_4 => ?_)
            refine cr_aload_n X 0 rfl dX9_readText_78 ?_
            refine cr_get X ((cr_m0 E).at (cr_row S0 9 G75_4 0) rfl) rfl i_X9_readText_X9 13 (by decide) k_X9_readText_3 rfl dX9_readText_79 ?_
            refine cr_if_eq X 89 dX9_readText_82 rfl ?_ ?_
            · refine cr_aload_n X 0 rfl dX9_readText_89 ?_
              refine cr_get X ((cr_m0 E).at (cr_row S0 9 G75_4 0) rfl) rfl i_X9_readText_X9 6 (by decide) k_X9_readText_4 rfl dX9_readText_90 ?_
              exact cr_iret X rfl rfl dX9_readText_93
            · refine cr_aload_n X 0 rfl dX9_readText_85 ?_
              refine cr_callV X (As := []) (rest := []) (c_X9_close Γ.2.1 E hEK S0 G75_4) ((cr_m0 E).at (cr_row S0 9 G75_4 0) rfl) rfl 0 gX9_readText_X9_close rfl rfl rfl (by decide +kernel) ⟨Nat.le_of_ble_eq_true rfl, Nat.le_of_ble_eq_true rfl⟩ (by decide) rfl rfl (Nat.le_of_ble_eq_true rfl) dX9_readText_86 (fun r86_5 => ?_)
              show cr_P Γ E 2 _ 0 0 (cr_us S0 9 r86_5) 89 ([(0, .ref (E.2.1 9 0)), (1, .int x1)]) ([]) _
              refine cr_aload_n X 0 rfl dX9_readText_89 ?_
              refine cr_get X ((cr_m0 E).at (cr_row S0 9 r86_5 0) rfl) rfl i_X9_readText_X9 6 (by decide) k_X9_readText_4 rfl dX9_readText_90 ?_
              exact cr_iret X rfl rfl dX9_readText_93
    · refine cr_aload_n X 0 rfl dX9_readText_25 ?_
      refine cr_aload_n X 0 rfl dX9_readText_26 ?_
      refine cr_get X ((cr_m0 E).at (cr_row S0 9 G 0) rfl) rfl i_X9_readText_X9 3 (by decide) k_X9_readText_5 rfl dX9_readText_27 ?_
      refine cr_iload_n X 1 rfl dX9_readText_30 ?_
      refine cr_iald X ((cr_m4 E).at (cr_row S0 9 G 4) rfl) dX9_readText_31 ?_
      refine cr_callV X (As := [.int (((G 4) (x1).toNatClampNeg))]) (rest := []) (c_X9_goes Γ.2.1 E hEK S0 G (((G 4) (x1).toNatClampNeg))) ((cr_m0 E).at (cr_row S0 9 G 0) rfl) rfl 1 gX9_readText_X9_goes rfl rfl rfl (by decide +kernel) ⟨Nat.le_of_ble_eq_true rfl, Nat.le_of_ble_eq_true rfl⟩ (by decide) rfl rfl (Nat.le_of_ble_eq_true rfl) dX9_readText_32 (fun r32_6 => ?_)
      show cr_P Γ E 2 _ 0 0 (cr_us S0 9 r32_6.2) 35 ([(0, .ref (E.2.1 9 0)), (1, .int x1)]) ([.int (cr_b r32_6.1)]) _
      refine cr_ifb_ne X 40 dX9_readText_35 rfl ?_ ?_
      · refine cr_iinc X (x1 + 1) (fun v40_7 => [(1, .int v40_7), (0, .ref (E.2.1 9 0))]) 1 rfl rfl (fun _ => rfl) (by decide) dX9_readText_40 (fun v40_7 => ?_)
        refine cr_goto X 17 dX9_readText_43 rfl ?_
        refine cr_sub (lv' := [(0, .ref (E.2.1 9 0)), (1, .int v40_7)]) [1, 0] rfl ?_
        exact ih v40_7 r32_6.2
      · refine cr_iload_n X 1 rfl dX9_readText_38 ?_
        exact cr_iret X rfl rfl dX9_readText_39
set_option maxHeartbeats 4000000 in
set_option maxRecDepth 100000 in
theorem c_X9_readText (l : Launch) (E : cr_E) (hEK : cr_EK E) (S0 : cr_S) (G : cr_G) : cr_M l E yX9_readText wsX9_readText rm_X9_readText [.ref (E.2.1 9 0)] (cr_us S0 9 G) (cr_vIG S0 9) (s_X9_readText G) := by
  refine cr_enter (cc := cX9_readText) (nL := 2) (rt := (some .int)) hEK (by decide) rfl (Nat.le_of_ble_eq_true rfl) (fun Γ hΓ X => ?_)
  subst hΓ
  have X : cr_X Γ E cX9_readText 2 RX9 wsX9_readText rm_X9_readText (some .int) := X
  unfold s_X9_readText
  show cr_P Γ E 2 _ 0 0 (cr_us S0 9 G) 0 ([(0, .ref (E.2.1 9 0))]) [] _
  refine cr_aload_n X 0 rfl dX9_readText_0 ?_
  refine cr_iconst X (0 : Int32) (by decide) dX9_readText_1 ?_
  refine cr_putG X (cr_m0 E) 9 rfl rfl rfl i_X9_readText_X9 tyX9 tyX9_ok nmX9 (by decide) k_X9_readText_1 rfl rfl rfl (Nat.le_of_ble_eq_true rfl) dX9_readText_2 (fun G2_1 => ?_)
  refine cr_aload_n X 0 rfl dX9_readText_5 ?_
  refine cr_iconst X (0 : Int32) (by decide) dX9_readText_6 ?_
  refine cr_putG X (cr_m0 E) 12 rfl rfl rfl i_X9_readText_X9 tyX9 tyX9_ok nmX9 (by decide) k_X9_readText_2 rfl rfl rfl (Nat.le_of_ble_eq_true rfl) dX9_readText_7 (fun G7_2 => ?_)
  refine cr_aload_n X 0 rfl dX9_readText_10 ?_
  refine cr_iconst X (0 : Int32) (by decide) dX9_readText_11 ?_
  refine cr_putG X (cr_m0 E) 13 rfl rfl rfl i_X9_readText_X9 tyX9 tyX9_ok nmX9 (by decide) k_X9_readText_3 rfl rfl rfl (Nat.le_of_ble_eq_true rfl) dX9_readText_12 (fun G12_3 => ?_)
  refine cr_iconst X (0 : Int32) (by decide) dX9_readText_15 ?_
  refine cr_istore_n X ([(1, .int ((0 : Int32))), (0, .ref (E.2.1 9 0))]) rfl (by decide) dX9_readText_16 ?_
  refine cr_sub (lv' := [(0, .ref (E.2.1 9 0)), (1, .int ((0 : Int32)))]) [1, 0] rfl ?_
  exact b_X9_readText_17 X S0 1200 ((0 : Int32)) G12_3
theorem c_X9_readText_S (l : Launch) (E : cr_E) (hEK : cr_EK E) (S : cr_S) : cr_M l E yX9_readText wsX9_readText rm_X9_readText [.ref (E.2.1 9 0)] S (cr_vIG S 9) (s_X9_readText   (S.1 9)) := by
  have h := c_X9_readText l E hEK S (S.1 9)
  rw [cr_us_self] at h
  exact h
theorem k_X9_firstError_1 : (Cond.fieldLink RX9 28 "CraneCampaignModel" "thrown" "I") ∈ wsX9_firstError := List.mem_of_getElem? (i := 1) (by rfl)
theorem i_X9_firstError_X9 : ∀ w ∈ wsX90, w ∈ wsX9_firstError := by decide +kernel
abbrev rm_X9_firstError : Room := { frames := 4, cells := 0, slots := 0, locals := 87 }
set_option maxHeartbeats 4000000 in
set_option maxRecDepth 100000 in
theorem c_X9_firstError (l : Launch) (E : cr_E) (hEK : cr_EK E) (S0 : cr_S) (G : cr_G) : cr_M l E yX9_firstError wsX9_firstError rm_X9_firstError [.ref (E.2.1 9 0)] (cr_us S0 9 G) (cr_vIG S0 9) (s_X9_firstError G) := by
  refine cr_enter (cc := cX9_firstError) (nL := 1) (rt := (some .int)) hEK (by decide) rfl (Nat.le_of_ble_eq_true rfl) (fun Γ hΓ X => ?_)
  subst hΓ
  have X : cr_X Γ E cX9_firstError 1 RX9 wsX9_firstError rm_X9_firstError (some .int) := X
  unfold s_X9_firstError
  show cr_P Γ E 1 _ 0 0 (cr_us S0 9 G) 0 ([(0, .ref (E.2.1 9 0))]) [] _
  refine cr_aload_n X 0 rfl dX9_firstError_0 ?_
  refine cr_iconst X (0 : Int32) (by decide) dX9_firstError_1 ?_
  refine cr_putG X (cr_m0 E) 7 rfl rfl rfl i_X9_firstError_X9 tyX9 tyX9_ok nmX9 (by decide) k_X9_firstError_1 rfl rfl rfl (Nat.le_of_ble_eq_true rfl) dX9_firstError_2 (fun G2_1 => ?_)
  refine cr_aload_n X 0 rfl dX9_firstError_5 ?_
  refine cr_callV X (As := []) (rest := []) (c_X9_readText Γ.2.1 E hEK S0 G2_1) ((cr_m0 E).at (cr_row S0 9 G2_1 0) rfl) rfl 0 gX9_firstError_X9_readText rfl rfl rfl (by decide +kernel) ⟨Nat.le_of_ble_eq_true rfl, Nat.le_of_ble_eq_true rfl⟩ (by decide) rfl rfl (Nat.le_of_ble_eq_true rfl) dX9_firstError_6 (fun r6_2 => ?_)
  show cr_P Γ E 1 _ 0 0 (cr_us S0 9 r6_2.2) 9 ([(0, .ref (E.2.1 9 0))]) ([.int r6_2.1]) _
  exact cr_iret X rfl rfl dX9_firstError_9
theorem c_X9_firstError_S (l : Launch) (E : cr_E) (hEK : cr_EK E) (S : cr_S) : cr_M l E yX9_firstError wsX9_firstError rm_X9_firstError [.ref (E.2.1 9 0)] S (cr_vIG S 9) (s_X9_firstError   (S.1 9)) := by
  have h := c_X9_firstError l E hEK S (S.1 9)
  rw [cr_us_self] at h
  exact h
abbrev rm_X9_highest : Room := { frames := 0, cells := 0, slots := 0, locals := 0 }
set_option maxHeartbeats 4000000 in
set_option maxRecDepth 100000 in
theorem c_X9_highest (l : Launch) (E : cr_E) (hEK : cr_EK E) (S : cr_S) (p0 : Int32) : cr_M l E yX9_highest wsX9_highest rm_X9_highest [.int p0] S (cr_vI S) (s_X9_highest p0) := by
  refine cr_enter (cc := cX9_highest) (nL := 1) (rt := (some .int)) hEK (by decide) rfl (Nat.le_of_ble_eq_true rfl) (fun Γ hΓ X => ?_)
  subst hΓ
  have X : cr_X Γ E cX9_highest 1 RX9 wsX9_highest rm_X9_highest (some .int) := X
  unfold s_X9_highest
  show cr_P Γ E 1 _ 0 0 S 0 ([(0, .int p0)]) [] _
  refine cr_iload_n X 0 rfl dX9_highest_0 ?_
  refine cr_ite (fun h1_0 => ?_) (fun n1_0 => ?_)
  · refine cr_tin X 0 40 h1_0 dX9_highest_1 (by decide) rfl rfl ?_
    refine cr_bipush X (25 : Int32) (by decide) dX9_highest_40 ?_
    exact cr_iret X rfl rfl dX9_highest_42
  · refine cr_ite (fun h1_1 => ?_) (fun n1_1 => ?_)
    · refine cr_tin X 1 43 h1_1 dX9_highest_1 (by decide) rfl rfl ?_
      refine cr_bipush X (20 : Int32) (by decide) dX9_highest_43 ?_
      exact cr_iret X rfl rfl dX9_highest_45
    · refine cr_ite (fun h1_2 => ?_) (fun n1_2 => ?_)
      · refine cr_tin X 2 46 h1_2 dX9_highest_1 (by decide) rfl rfl ?_
        refine cr_bipush X (12 : Int32) (by decide) dX9_highest_46 ?_
        exact cr_iret X rfl rfl dX9_highest_48
      · refine cr_ite (fun h1_3 => ?_) (fun n1_3 => ?_)
        · refine cr_tin X 3 49 h1_3 dX9_highest_1 (by decide) rfl rfl ?_
          refine cr_sipush X (200 : Int32) (by decide) dX9_highest_49 ?_
          exact cr_iret X rfl rfl dX9_highest_52
        · refine cr_ite (fun h1_4 => ?_) (fun n1_4 => ?_)
          · refine cr_tin X 4 53 h1_4 dX9_highest_1 (by decide) rfl rfl ?_
            refine cr_bipush X (10 : Int32) (by decide) dX9_highest_53 ?_
            exact cr_iret X rfl rfl dX9_highest_55
          · refine cr_ite (fun h1_5 => ?_) (fun n1_5 => ?_)
            · refine cr_tin X 5 56 h1_5 dX9_highest_1 (by decide) rfl rfl ?_
              refine cr_bipush X (100 : Int32) (by decide) dX9_highest_56 ?_
              exact cr_iret X rfl rfl dX9_highest_58
            · refine cr_tout X 59 dX9_highest_1 (by have q0 := lv_neT (a := 0) n1_0 rfl; have q1 := lv_neT (a := 1) n1_1 rfl; have q2 := lv_neT (a := 2) n1_2 rfl; have q3 := lv_neT (a := 3) n1_3 rfl; have q4 := lv_neT (a := 4) n1_4 rfl; have q5 := lv_neT (a := 5) n1_5 rfl; omega) rfl ?_
              refine cr_bipush X (50 : Int32) (by decide) dX9_highest_59 ?_
              exact cr_iret X rfl rfl dX9_highest_61
theorem k_X9_ifPassed_1 : (Cond.fieldLink RX9 28 "CraneCampaignModel" "thrown" "I") ∈ wsX9_ifPassed := List.mem_of_getElem? (i := 1) (by rfl)
theorem i_X9_ifPassed_X9 : ∀ w ∈ wsX90, w ∈ wsX9_ifPassed := by decide +kernel
abbrev rm_X9_ifPassed : Room := { frames := 5, cells := 0, slots := 0, locals := 124 }
set_option maxHeartbeats 4000000 in
set_option maxRecDepth 100000 in
theorem b_X9_ifPassed_35 {Γ : cr_C} {E : cr_E} (X : cr_X Γ E cX9_ifPassed 3 RX9 wsX9_ifPassed rm_X9_ifPassed (some .int)) (S0 : cr_S)  (G : cr_G) : cr_P Γ E 3 (cr_F Γ E (cr_vIG S0 9)) 0 0 (cr_us S0 9 G) 35 ([(0, .ref (E.2.1 9 0))]) ([]) (s_X9_ifPassed_35 G) := by
  have hEK := X.2.2.2.2.2.2.1
  unfold s_X9_ifPassed_35
  refine cr_aload_n X 0 rfl dX9_ifPassed_35 ?_
  refine cr_iconst X (1 : Int32) (by decide) dX9_ifPassed_36 ?_
  refine cr_callV X (As := [.int ((1 : Int32))]) (rest := []) (c_X9_fails Γ.2.1 E hEK S0 G ((1 : Int32))) ((cr_m0 E).at (cr_row S0 9 G 0) rfl) rfl 1 gX9_ifPassed_X9_fails rfl rfl rfl (by decide +kernel) ⟨Nat.le_of_ble_eq_true rfl, Nat.le_of_ble_eq_true rfl⟩ (by decide) rfl rfl (Nat.le_of_ble_eq_true rfl) dX9_ifPassed_37 (fun r37_5 => ?_)
  show cr_P Γ E 3 _ 0 0 (cr_us S0 9 r37_5.2) 40 ([(0, .ref (E.2.1 9 0))]) ([.int r37_5.1]) _
  exact cr_iret X rfl rfl dX9_ifPassed_40
set_option maxHeartbeats 4000000 in
set_option maxRecDepth 100000 in
theorem c_X9_ifPassed (l : Launch) (E : cr_E) (hEK : cr_EK E) (S0 : cr_S) (G : cr_G) (p1 : Int32) (p2 : Int32) : cr_M l E yX9_ifPassed wsX9_ifPassed rm_X9_ifPassed [.ref (E.2.1 9 0), .int p1, .int p2] (cr_us S0 9 G) (cr_vIG S0 9) (s_X9_ifPassed p1 p2 G) := by
  refine cr_enter (cc := cX9_ifPassed) (nL := 3) (rt := (some .int)) hEK (by decide) rfl (Nat.le_of_ble_eq_true rfl) (fun Γ hΓ X => ?_)
  subst hΓ
  have X : cr_X Γ E cX9_ifPassed 3 RX9 wsX9_ifPassed rm_X9_ifPassed (some .int) := X
  unfold s_X9_ifPassed
  show cr_P Γ E 3 _ 0 0 (cr_us S0 9 G) 0 ([(0, .ref (E.2.1 9 0)), (1, .int p1), (2, .int p2)]) [] _
  refine cr_aload_n X 0 rfl dX9_ifPassed_0 ?_
  refine cr_iconst X (0 : Int32) (by decide) dX9_ifPassed_1 ?_
  refine cr_putG X (cr_m0 E) 7 rfl rfl rfl i_X9_ifPassed_X9 tyX9 tyX9_ok nmX9 (by decide) k_X9_ifPassed_1 rfl rfl rfl (Nat.le_of_ble_eq_true rfl) dX9_ifPassed_2 (fun G2_1 => ?_)
  refine cr_iload_n X 1 rfl dX9_ifPassed_5 ?_
  refine cr_iconst X (1 : Int32) (by decide) dX9_ifPassed_6 ?_
  refine cr_sipush X (200 : Int32) (by decide) dX9_ifPassed_7 ?_
  refine cr_callS X (As := [.int p1, .int ((1 : Int32)), .int ((200 : Int32))]) (rest := []) (c_X9_within Γ.2.1 E hEK ((cr_us S0 9 G2_1)) p1 ((1 : Int32)) ((200 : Int32))) 3 gX9_ifPassed_X9_within rfl rfl rfl (by decide +kernel) ⟨Nat.le_of_ble_eq_true rfl, Nat.le_of_ble_eq_true rfl⟩ (by decide) rfl rfl (Nat.le_of_ble_eq_true rfl) dX9_ifPassed_10 (fun r10_2 => ?_)
  show cr_P Γ E 3 _ 0 0 (cr_us S0 9 G2_1) 13 ([(0, .ref (E.2.1 9 0)), (1, .int p1), (2, .int p2)]) ([.int (cr_b r10_2)]) _
  refine cr_ifb_eq X 35 dX9_ifPassed_13 rfl ?_ ?_
  · refine cr_sub (lv' := [(0, .ref (E.2.1 9 0))]) [0] rfl ?_
    exact b_X9_ifPassed_35 X S0 G2_1
  · refine cr_iload_n X 2 rfl dX9_ifPassed_16 ?_
    refine cr_iconst X (0 : Int32) (by decide) dX9_ifPassed_17 ?_
    refine cr_bipush X (8 : Int32) (by decide) dX9_ifPassed_18 ?_
    refine cr_callS X (As := [.int p2, .int ((0 : Int32)), .int ((8 : Int32))]) (rest := []) (c_X9_within Γ.2.1 E hEK ((cr_us S0 9 G2_1)) p2 ((0 : Int32)) ((8 : Int32))) 3 gX9_ifPassed_X9_within rfl rfl rfl (by decide +kernel) ⟨Nat.le_of_ble_eq_true rfl, Nat.le_of_ble_eq_true rfl⟩ (by decide) rfl rfl (Nat.le_of_ble_eq_true rfl) dX9_ifPassed_20 (fun r20_3 => ?_)
    show cr_P Γ E 3 _ 0 0 (cr_us S0 9 G2_1) 23 ([(0, .ref (E.2.1 9 0)), (1, .int p1), (2, .int p2)]) ([.int (cr_b r20_3)]) _
    refine cr_ifb_eq X 35 dX9_ifPassed_23 rfl ?_ ?_
    · refine cr_sub (lv' := [(0, .ref (E.2.1 9 0))]) [0] rfl ?_
      exact b_X9_ifPassed_35 X S0 G2_1
    · refine cr_aload_n X 0 rfl dX9_ifPassed_26 ?_
      refine cr_iload_n X 1 rfl dX9_ifPassed_27 ?_
      refine cr_iload_n X 2 rfl dX9_ifPassed_28 ?_
      refine cr_callV X (As := [.int p1, .int p2]) (rest := []) (c_X9_after Γ.2.1 E hEK S0 G2_1 p1 p2) ((cr_m0 E).at (cr_row S0 9 G2_1 0) rfl) rfl 2 gX9_ifPassed_X9_after rfl rfl rfl (by decide +kernel) ⟨Nat.le_of_ble_eq_true rfl, Nat.le_of_ble_eq_true rfl⟩ (by decide) rfl rfl (Nat.le_of_ble_eq_true rfl) dX9_ifPassed_29 (fun r29_4 => ?_)
      show cr_P Γ E 3 _ 0 0 (cr_us S0 9 r29_4.2) 32 ([(0, .ref (E.2.1 9 0)), (1, .int p1), (2, .int p2)]) ([.int r29_4.1]) _
      refine cr_goto X 40 dX9_ifPassed_32 rfl ?_
      exact cr_iret X rfl rfl dX9_ifPassed_40
theorem c_X9_ifPassed_S (l : Launch) (E : cr_E) (hEK : cr_EK E) (S : cr_S) (p1 : Int32) (p2 : Int32) : cr_M l E yX9_ifPassed wsX9_ifPassed rm_X9_ifPassed [.ref (E.2.1 9 0), .int p1, .int p2] S (cr_vIG S 9) (s_X9_ifPassed  p1 p2 (S.1 9)) := by
  have h := c_X9_ifPassed l E hEK S (S.1 9) p1 p2
  rw [cr_us_self] at h
  exact h
theorem k_X9_isTurbine_1 : (Cond.fieldLink RX9 7 "CraneCampaignModel" "z" "[I") ∈ wsX9_isTurbine := List.mem_of_getElem? (i := 1) (by rfl)
theorem i_X9_isTurbine_X9 : ∀ w ∈ wsX90, w ∈ wsX9_isTurbine := by decide +kernel
abbrev rm_X9_isTurbine : Room := { frames := 1, cells := 0, slots := 0, locals := 22 }
set_option maxHeartbeats 4000000 in
set_option maxRecDepth 100000 in
theorem c_X9_isTurbine (l : Launch) (E : cr_E) (hEK : cr_EK E) (S0 : cr_S) (G : cr_G) (p1 : Int32) : cr_M l E yX9_isTurbine wsX9_isTurbine rm_X9_isTurbine [.ref (E.2.1 9 0), .int p1] (cr_us S0 9 G) (cr_vB (cr_us S0 9 G)) (s_X9_isTurbine G p1) := by
  refine cr_enter (cc := cX9_isTurbine) (nL := 2) (rt := (some .boolean)) hEK (by decide) rfl (Nat.le_of_ble_eq_true rfl) (fun Γ hΓ X => ?_)
  subst hΓ
  have X : cr_X Γ E cX9_isTurbine 2 RX9 wsX9_isTurbine rm_X9_isTurbine (some .boolean) := X
  unfold s_X9_isTurbine
  show cr_P Γ E 2 _ 0 0 (cr_us S0 9 G) 0 ([(0, .ref (E.2.1 9 0)), (1, .int p1)]) [] _
  refine cr_iload_n X 1 rfl dX9_isTurbine_0 ?_
  refine cr_iconst X (0 : Int32) (by decide) dX9_isTurbine_1 ?_
  refine cr_aload_n X 0 rfl dX9_isTurbine_2 ?_
  refine cr_get X ((cr_m0 E).at (cr_row S0 9 G 0) rfl) rfl i_X9_isTurbine_X9 0 (by decide) k_X9_isTurbine_1 rfl dX9_isTurbine_3 ?_
  refine cr_bipush X (70 : Int32) (by decide) dX9_isTurbine_6 ?_
  refine cr_ialdk X 70 (by decide) (by decide) ((cr_m1 E).at (cr_row S0 9 G 1) rfl) dX9_isTurbine_8 ?_
  refine cr_iconst X (1 : Int32) (by decide) dX9_isTurbine_9 ?_
  refine cr_isub X dX9_isTurbine_10 ?_
  refine cr_callS X (As := [.int p1, .int ((0 : Int32)), .int ((((G 1) 70) - (1 : Int32)))]) (rest := []) (c_X9_within Γ.2.1 E hEK ((cr_us S0 9 G)) p1 ((0 : Int32)) ((((G 1) 70) - (1 : Int32)))) 3 gX9_isTurbine_X9_within rfl rfl rfl (by decide +kernel) ⟨Nat.le_of_ble_eq_true rfl, Nat.le_of_ble_eq_true rfl⟩ (by decide) rfl rfl (Nat.le_of_ble_eq_true rfl) dX9_isTurbine_11 (fun r11_1 => ?_)
  show cr_P Γ E 2 _ 0 0 (cr_us S0 9 G) 14 ([(0, .ref (E.2.1 9 0)), (1, .int p1)]) ([.int (cr_b r11_1)]) _
  exact cr_zret X r11_1 rfl rfl rfl dX9_isTurbine_14
theorem c_X9_isTurbine_S (l : Launch) (E : cr_E) (hEK : cr_EK E) (S : cr_S) (p1 : Int32) : cr_M l E yX9_isTurbine wsX9_isTurbine rm_X9_isTurbine [.ref (E.2.1 9 0), .int p1] S (cr_vB S) (s_X9_isTurbine (S.1 9) p1) := by
  have h := c_X9_isTurbine l E hEK S (S.1 9) p1
  rw [cr_us_self] at h
  exact h
theorem k_X9_load_1 : (Cond.fieldLink RX9 28 "CraneCampaignModel" "thrown" "I") ∈ wsX9_load := List.mem_of_getElem? (i := 1) (by rfl)
theorem k_X9_load_2 : (Cond.fieldLink RX9 131 "CraneCampaignModel" "isWhole" "Z") ∈ wsX9_load := List.mem_of_getElem? (i := 2) (by rfl)
theorem k_X9_load_3 : (Cond.fieldLink RX9 104 "CraneCampaignModel" "all" "I") ∈ wsX9_load := List.mem_of_getElem? (i := 3) (by rfl)
theorem k_X9_load_4 : (Cond.fieldLink RX9 98 "CraneCampaignModel" "length" "I") ∈ wsX9_load := List.mem_of_getElem? (i := 4) (by rfl)
theorem k_X9_load_5 : (Cond.fieldLink RX9 7 "CraneCampaignModel" "z" "[I") ∈ wsX9_load := List.mem_of_getElem? (i := 5) (by rfl)
theorem k_X9_load_6 : (Cond.fieldLink RX9 25 "CraneCampaignModel" "read" "[I") ∈ wsX9_load := List.mem_of_getElem? (i := 6) (by rfl)
theorem i_X9_load_X9 : ∀ w ∈ wsX90, w ∈ wsX9_load := by decide +kernel
abbrev rm_X9_load : Room := { frames := 4, cells := 0, slots := 0, locals := 87 }
set_option maxHeartbeats 4000000 in
set_option maxRecDepth 100000 in
theorem b_X9_load_60 {Γ : cr_C} {E : cr_E} (X : cr_X Γ E cX9_load 2 RX9 wsX9_load rm_X9_load (some .int)) (S0 : cr_S) : ∀ (n : Nat) (x1 : Int32) (G : cr_G), cr_P Γ E 2 (cr_F Γ E (cr_vIG S0 9)) 0 0 (cr_us S0 9 G) 60 ([(0, .ref (E.2.1 9 0)), (1, .int x1)]) ([]) (s_X9_load_60 n x1 G) := by
  have hEK := X.2.2.2.2.2.2.1
  intro n
  induction n with
  | zero => intro x1 G; exact cr_none
  | succ n ih =>
    intro x1 G
    rw [s_X9_load_60]
    refine cr_iload_n X 1 rfl dX9_load_60 ?_
    refine cr_bipush X (48 : Int32) (by decide) dX9_load_61 ?_
    refine cr_icmp_ge X 99 dX9_load_63 rfl ?_ ?_
    · refine cr_aload_n X 0 rfl dX9_load_99 ?_
      refine cr_get X ((cr_m0 E).at (cr_row S0 9 G 0) rfl) rfl i_X9_load_X9 12 (by decide) k_X9_load_3 rfl dX9_load_100 ?_
      exact cr_iret X rfl rfl dX9_load_103
    · refine cr_aload_n X 0 rfl dX9_load_66 ?_
      refine cr_get X ((cr_m0 E).at (cr_row S0 9 G 0) rfl) rfl i_X9_load_X9 0 (by decide) k_X9_load_5 rfl dX9_load_67 ?_
      refine cr_bipush X (79 : Int32) (by decide) dX9_load_70 ?_
      refine cr_iload_n X 1 rfl dX9_load_72 ?_
      refine cr_iadd X dX9_load_73 ?_
      refine cr_iload_n X 1 rfl dX9_load_74 ?_
      refine cr_aload_n X 0 rfl dX9_load_75 ?_
      refine cr_get X ((cr_m0 E).at (cr_row S0 9 G 0) rfl) rfl i_X9_load_X9 12 (by decide) k_X9_load_3 rfl dX9_load_76 ?_
      refine cr_icmp_ge X 91 dX9_load_79 rfl ?_ ?_
      · refine cr_iconst X (0 : Int32) (by decide) dX9_load_91 ?_
        refine cr_iastG X (cr_m1 E) (fun _ _ => rfl) dX9_load_92 (fun G92_8 => ?_)
        refine cr_iinc X (x1 + 1) (fun v93_9 => [(1, .int v93_9), (0, .ref (E.2.1 9 0))]) 1 rfl rfl (fun _ => rfl) (by decide) dX9_load_93 (fun v93_9 => ?_)
        refine cr_goto X 60 dX9_load_96 rfl ?_
        refine cr_sub (lv' := [(0, .ref (E.2.1 9 0)), (1, .int v93_9)]) [1, 0] rfl ?_
        exact ih v93_9 G92_8
      · refine cr_aload_n X 0 rfl dX9_load_82 ?_
        refine cr_get X ((cr_m0 E).at (cr_row S0 9 G 0) rfl) rfl i_X9_load_X9 14 (by decide) k_X9_load_6 rfl dX9_load_83 ?_
        refine cr_iload_n X 1 rfl dX9_load_86 ?_
        refine cr_iald X ((cr_m6 E).at (cr_row S0 9 G 6) rfl) dX9_load_87 ?_
        refine cr_goto X 92 dX9_load_88 rfl ?_
        refine cr_iastG X (cr_m1 E) (fun _ _ => rfl) dX9_load_92 (fun G92_10 => ?_)
        refine cr_iinc X (x1 + 1) (fun v93_11 => [(1, .int v93_11), (0, .ref (E.2.1 9 0))]) 1 rfl rfl (fun _ => rfl) (by decide) dX9_load_93 (fun v93_11 => ?_)
        refine cr_goto X 60 dX9_load_96 rfl ?_
        refine cr_sub (lv' := [(0, .ref (E.2.1 9 0)), (1, .int v93_11)]) [1, 0] rfl ?_
        exact ih v93_11 G92_10
set_option maxHeartbeats 4000000 in
set_option maxRecDepth 100000 in
theorem c_X9_load (l : Launch) (E : cr_E) (hEK : cr_EK E) (S0 : cr_S) (G : cr_G) : cr_M l E yX9_load wsX9_load rm_X9_load [.ref (E.2.1 9 0)] (cr_us S0 9 G) (cr_vIG S0 9) (s_X9_load G) := by
  refine cr_enter (cc := cX9_load) (nL := 2) (rt := (some .int)) hEK (by decide) rfl (Nat.le_of_ble_eq_true rfl) (fun Γ hΓ X => ?_)
  subst hΓ
  have X : cr_X Γ E cX9_load 2 RX9 wsX9_load rm_X9_load (some .int) := X
  unfold s_X9_load
  show cr_P Γ E 2 _ 0 0 (cr_us S0 9 G) 0 ([(0, .ref (E.2.1 9 0))]) [] _
  refine cr_aload_n X 0 rfl dX9_load_0 ?_
  refine cr_iconst X (0 : Int32) (by decide) dX9_load_1 ?_
  refine cr_putG X (cr_m0 E) 7 rfl rfl rfl i_X9_load_X9 tyX9 tyX9_ok nmX9 (by decide) k_X9_load_1 rfl rfl rfl (Nat.le_of_ble_eq_true rfl) dX9_load_2 (fun G2_1 => ?_)
  refine cr_aload_n X 0 rfl dX9_load_5 ?_
  refine cr_callV X (As := []) (rest := []) (c_X9_readText Γ.2.1 E hEK S0 G2_1) ((cr_m0 E).at (cr_row S0 9 G2_1 0) rfl) rfl 0 gX9_load_X9_readText rfl rfl rfl (by decide +kernel) ⟨Nat.le_of_ble_eq_true rfl, Nat.le_of_ble_eq_true rfl⟩ (by decide) rfl rfl (Nat.le_of_ble_eq_true rfl) dX9_load_6 (fun r6_2 => ?_)
  show cr_P Γ E 2 _ 0 0 (cr_us S0 9 r6_2.2) 9 ([(0, .ref (E.2.1 9 0))]) ([.int r6_2.1]) _
  refine cr_pop X rfl dX9_load_9 ?_
  refine cr_aload_n X 0 rfl dX9_load_10 ?_
  refine cr_get X ((cr_m0 E).at (cr_row S0 9 r6_2.2 0) rfl) rfl i_X9_load_X9 13 (by decide) k_X9_load_2 rfl dX9_load_11 ?_
  refine cr_if_ne X 23 dX9_load_14 rfl ?_ ?_
  · refine cr_aload_n X 0 rfl dX9_load_23 ?_
    refine cr_get X ((cr_m0 E).at (cr_row S0 9 r6_2.2 0) rfl) rfl i_X9_load_X9 12 (by decide) k_X9_load_3 rfl dX9_load_24 ?_
    refine cr_bipush X (48 : Int32) (by decide) dX9_load_27 ?_
    refine cr_icmp_le X 38 dX9_load_29 rfl ?_ ?_
    · refine cr_aload_n X 0 rfl dX9_load_38 ?_
      refine cr_callV X (As := []) (rest := []) (c_X9_save Γ.2.1 E hEK S0 r6_2.2) ((cr_m0 E).at (cr_row S0 9 r6_2.2 0) rfl) rfl 0 gX9_load_X9_save rfl rfl rfl (by decide +kernel) ⟨Nat.le_of_ble_eq_true rfl, Nat.le_of_ble_eq_true rfl⟩ (by decide) rfl rfl (Nat.le_of_ble_eq_true rfl) dX9_load_39 (fun r39_3 => ?_)
      show cr_P Γ E 2 _ 0 0 (cr_us S0 9 r39_3) 42 ([(0, .ref (E.2.1 9 0))]) ([]) _
      refine cr_aload_n X 0 rfl dX9_load_42 ?_
      refine cr_iconst X (0 : Int32) (by decide) dX9_load_43 ?_
      refine cr_putG X (cr_m0 E) 6 rfl rfl rfl i_X9_load_X9 tyX9 tyX9_ok nmX9 (by decide) k_X9_load_4 rfl rfl rfl (Nat.le_of_ble_eq_true rfl) dX9_load_44 (fun G44_4 => ?_)
      refine cr_aload_n X 0 rfl dX9_load_47 ?_
      refine cr_get X ((cr_m0 E).at (cr_row S0 9 G44_4 0) rfl) rfl i_X9_load_X9 0 (by decide) k_X9_load_5 rfl dX9_load_48 ?_
      refine cr_bipush X (78 : Int32) (by decide) dX9_load_51 ?_
      refine cr_aload_n X 0 rfl dX9_load_53 ?_
      refine cr_get X ((cr_m0 E).at (cr_row S0 9 G44_4 0) rfl) rfl i_X9_load_X9 12 (by decide) k_X9_load_3 rfl dX9_load_54 ?_
      refine cr_iastGk X 78 (cr_m1 E) (fun _ _ => rfl) (by decide) (by decide) dX9_load_57 (fun G57_5 => ?_)
      refine cr_iconst X (0 : Int32) (by decide) dX9_load_58 ?_
      refine cr_istore_n X ([(1, .int ((0 : Int32))), (0, .ref (E.2.1 9 0))]) rfl (by decide) dX9_load_59 ?_
      refine cr_sub (lv' := [(0, .ref (E.2.1 9 0)), (1, .int ((0 : Int32)))]) [1, 0] rfl ?_
      exact b_X9_load_60 X S0 1200 ((0 : Int32)) G57_5
    · refine cr_aload_n X 0 rfl dX9_load_32 ?_
      refine cr_iconst X (2 : Int32) (by decide) dX9_load_33 ?_
      refine cr_callV X (As := [.int ((2 : Int32))]) (rest := []) (c_X9_fails Γ.2.1 E hEK S0 r6_2.2 ((2 : Int32))) ((cr_m0 E).at (cr_row S0 9 r6_2.2 0) rfl) rfl 1 gX9_load_X9_fails rfl rfl rfl (by decide +kernel) ⟨Nat.le_of_ble_eq_true rfl, Nat.le_of_ble_eq_true rfl⟩ (by decide) rfl rfl (Nat.le_of_ble_eq_true rfl) dX9_load_34 (fun r34_6 => ?_)
      show cr_P Γ E 2 _ 0 0 (cr_us S0 9 r34_6.2) 37 ([(0, .ref (E.2.1 9 0))]) ([.int r34_6.1]) _
      exact cr_iret X rfl rfl dX9_load_37
  · refine cr_aload_n X 0 rfl dX9_load_17 ?_
    refine cr_iconst X (1 : Int32) (by decide) dX9_load_18 ?_
    refine cr_callV X (As := [.int ((1 : Int32))]) (rest := []) (c_X9_fails Γ.2.1 E hEK S0 r6_2.2 ((1 : Int32))) ((cr_m0 E).at (cr_row S0 9 r6_2.2 0) rfl) rfl 1 gX9_load_X9_fails rfl rfl rfl (by decide +kernel) ⟨Nat.le_of_ble_eq_true rfl, Nat.le_of_ble_eq_true rfl⟩ (by decide) rfl rfl (Nat.le_of_ble_eq_true rfl) dX9_load_19 (fun r19_7 => ?_)
    show cr_P Γ E 2 _ 0 0 (cr_us S0 9 r19_7.2) 22 ([(0, .ref (E.2.1 9 0))]) ([.int r19_7.1]) _
    exact cr_iret X rfl rfl dX9_load_22
theorem c_X9_load_S (l : Launch) (E : cr_E) (hEK : cr_EK E) (S : cr_S) : cr_M l E yX9_load wsX9_load rm_X9_load [.ref (E.2.1 9 0)] S (cr_vIG S 9) (s_X9_load   (S.1 9)) := by
  have h := c_X9_load l E hEK S (S.1 9)
  rw [cr_us_self] at h
  exact h
theorem k_X9_lostShare_1 : (Cond.fieldLink RX9 28 "CraneCampaignModel" "thrown" "I") ∈ wsX9_lostShare := List.mem_of_getElem? (i := 1) (by rfl)
theorem i_X9_lostShare_X9 : ∀ w ∈ wsX90, w ∈ wsX9_lostShare := by decide +kernel
abbrev rm_X9_lostShare : Room := { frames := 2, cells := 0, slots := 0, locals := 45 }
set_option maxHeartbeats 4000000 in
set_option maxRecDepth 100000 in
theorem c_X9_lostShare (l : Launch) (E : cr_E) (hEK : cr_EK E) (S0 : cr_S) (G : cr_G) : cr_M l E yX9_lostShare wsX9_lostShare rm_X9_lostShare [.ref (E.2.1 9 0)] (cr_us S0 9 G) (cr_vDG S0 9) (s_X9_lostShare G) := by
  refine cr_enter (cc := cX9_lostShare) (nL := 1) (rt := (some .double)) hEK (by decide) rfl (Nat.le_of_ble_eq_true rfl) (fun Γ hΓ X => ?_)
  subst hΓ
  have X : cr_X Γ E cX9_lostShare 1 RX9 wsX9_lostShare rm_X9_lostShare (some .double) := X
  unfold s_X9_lostShare
  show cr_P Γ E 1 _ 0 0 (cr_us S0 9 G) 0 ([(0, .ref (E.2.1 9 0))]) [] _
  refine cr_aload_n X 0 rfl dX9_lostShare_0 ?_
  refine cr_iconst X (0 : Int32) (by decide) dX9_lostShare_1 ?_
  refine cr_putG X (cr_m0 E) 7 rfl rfl rfl i_X9_lostShare_X9 tyX9 tyX9_ok nmX9 (by decide) k_X9_lostShare_1 rfl rfl rfl (Nat.le_of_ble_eq_true rfl) dX9_lostShare_2 (fun G2_1 => ?_)
  refine cr_aload_n X 0 rfl dX9_lostShare_5 ?_
  refine cr_callV X (As := []) (rest := []) (c_X9_shareNow Γ.2.1 E hEK S0 G2_1) ((cr_m0 E).at (cr_row S0 9 G2_1 0) rfl) rfl 0 gX9_lostShare_X9_shareNow rfl rfl rfl (by decide +kernel) ⟨Nat.le_of_ble_eq_true rfl, Nat.le_of_ble_eq_true rfl⟩ (by decide) rfl rfl (Nat.le_of_ble_eq_true rfl) dX9_lostShare_6 (fun r6_2 => ?_)
  show cr_P Γ E 1 _ 0 0 (cr_us S0 9 G2_1) 9 ([(0, .ref (E.2.1 9 0))]) ([.double r6_2]) _
  exact cr_dret X rfl rfl dX9_lostShare_9
theorem c_X9_lostShare_S (l : Launch) (E : cr_E) (hEK : cr_EK E) (S : cr_S) : cr_M l E yX9_lostShare wsX9_lostShare rm_X9_lostShare [.ref (E.2.1 9 0)] S (cr_vDG S 9) (s_X9_lostShare   (S.1 9)) := by
  have h := c_X9_lostShare l E hEK S (S.1 9)
  rw [cr_us_self] at h
  exact h
abbrev rm_X9_lowest : Room := { frames := 0, cells := 0, slots := 0, locals := 0 }
set_option maxHeartbeats 4000000 in
set_option maxRecDepth 100000 in
theorem c_X9_lowest (l : Launch) (E : cr_E) (hEK : cr_EK E) (S : cr_S) (p0 : Int32) : cr_M l E yX9_lowest wsX9_lowest rm_X9_lowest [.int p0] S (cr_vI S) (s_X9_lowest p0) := by
  refine cr_enter (cc := cX9_lowest) (nL := 1) (rt := (some .int)) hEK (by decide) rfl (Nat.le_of_ble_eq_true rfl) (fun Γ hΓ X => ?_)
  subst hΓ
  have X : cr_X Γ E cX9_lowest 1 RX9 wsX9_lowest rm_X9_lowest (some .int) := X
  unfold s_X9_lowest
  show cr_P Γ E 1 _ 0 0 S 0 ([(0, .int p0)]) [] _
  refine cr_iload_n X 0 rfl dX9_lowest_0 ?_
  refine cr_if_ne X 8 dX9_lowest_1 rfl ?_ ?_
  · refine cr_iload_n X 0 rfl dX9_lowest_8 ?_
    refine cr_iconst X (4 : Int32) (by decide) dX9_lowest_9 ?_
    refine cr_icmp_lt X 18 dX9_lowest_10 rfl ?_ ?_
    · refine cr_iconst X (1 : Int32) (by decide) dX9_lowest_18 ?_
      refine cr_goto X 23 dX9_lowest_19 rfl ?_
      exact cr_iret X rfl rfl dX9_lowest_23
    · refine cr_iload_n X 0 rfl dX9_lowest_13 ?_
      refine cr_iconst X (5 : Int32) (by decide) dX9_lowest_14 ?_
      refine cr_icmp_ne X 22 dX9_lowest_15 rfl ?_ ?_
      · refine cr_iconst X (0 : Int32) (by decide) dX9_lowest_22 ?_
        exact cr_iret X rfl rfl dX9_lowest_23
      · refine cr_iconst X (1 : Int32) (by decide) dX9_lowest_18 ?_
        refine cr_goto X 23 dX9_lowest_19 rfl ?_
        exact cr_iret X rfl rfl dX9_lowest_23
  · refine cr_iconst X (5 : Int32) (by decide) dX9_lowest_4 ?_
    refine cr_goto X 23 dX9_lowest_5 rfl ?_
    exact cr_iret X rfl rfl dX9_lowest_23
theorem k_X9_meanWind_1 : (Cond.fieldLink RX9 28 "CraneCampaignModel" "thrown" "I") ∈ wsX9_meanWind := List.mem_of_getElem? (i := 1) (by rfl)
theorem i_X9_meanWind_X9 : ∀ w ∈ wsX90, w ∈ wsX9_meanWind := by decide +kernel
abbrev rm_X9_meanWind : Room := { frames := 1, cells := 0, slots := 0, locals := 22 }
set_option maxHeartbeats 4000000 in
set_option maxRecDepth 100000 in
theorem c_X9_meanWind (l : Launch) (E : cr_E) (hEK : cr_EK E) (S0 : cr_S) (G : cr_G) : cr_M l E yX9_meanWind wsX9_meanWind rm_X9_meanWind [.ref (E.2.1 9 0)] (cr_us S0 9 G) (cr_vFG S0 9) (s_X9_meanWind G) := by
  refine cr_enter (cc := cX9_meanWind) (nL := 1) (rt := (some .float)) hEK (by decide) rfl (Nat.le_of_ble_eq_true rfl) (fun Γ hΓ X => ?_)
  subst hΓ
  have X : cr_X Γ E cX9_meanWind 1 RX9 wsX9_meanWind rm_X9_meanWind (some .float) := X
  unfold s_X9_meanWind
  show cr_P Γ E 1 _ 0 0 (cr_us S0 9 G) 0 ([(0, .ref (E.2.1 9 0))]) [] _
  refine cr_aload_n X 0 rfl dX9_meanWind_0 ?_
  refine cr_iconst X (0 : Int32) (by decide) dX9_meanWind_1 ?_
  refine cr_putG X (cr_m0 E) 7 rfl rfl rfl i_X9_meanWind_X9 tyX9 tyX9_ok nmX9 (by decide) k_X9_meanWind_1 rfl rfl rfl (Nat.le_of_ble_eq_true rfl) dX9_meanWind_2 (fun G2_1 => ?_)
  refine cr_aload_n X 0 rfl dX9_meanWind_5 ?_
  refine cr_callV X (As := []) (rest := []) (c_X9_meanNow Γ.2.1 E hEK S0 G2_1) ((cr_m0 E).at (cr_row S0 9 G2_1 0) rfl) rfl 0 gX9_meanWind_X9_meanNow rfl rfl rfl (by decide +kernel) ⟨Nat.le_of_ble_eq_true rfl, Nat.le_of_ble_eq_true rfl⟩ (by decide) rfl rfl (Nat.le_of_ble_eq_true rfl) dX9_meanWind_6 (fun r6_2 => ?_)
  show cr_P Γ E 1 _ 0 0 (cr_us S0 9 G2_1) 9 ([(0, .ref (E.2.1 9 0))]) ([.float r6_2]) _
  exact cr_fret X rfl rfl dX9_meanWind_9
theorem c_X9_meanWind_S (l : Launch) (E : cr_E) (hEK : cr_EK E) (S : cr_S) : cr_M l E yX9_meanWind wsX9_meanWind rm_X9_meanWind [.ref (E.2.1 9 0)] S (cr_vFG S 9) (s_X9_meanWind   (S.1 9)) := by
  have h := c_X9_meanWind l E hEK S (S.1 9)
  rw [cr_us_self] at h
  exact h
theorem k_X9_orderBlade_1 : (Cond.fieldLink RX9 28 "CraneCampaignModel" "thrown" "I") ∈ wsX9_orderBlade := List.mem_of_getElem? (i := 1) (by rfl)
theorem k_X9_orderBlade_2 : (Cond.fieldLink RX9 7 "CraneCampaignModel" "z" "[I") ∈ wsX9_orderBlade := List.mem_of_getElem? (i := 2) (by rfl)
theorem i_X9_orderBlade_X9 : ∀ w ∈ wsX90, w ∈ wsX9_orderBlade := by decide +kernel
abbrev rm_X9_orderBlade : Room := { frames := 2, cells := 0, slots := 0, locals := 43 }
set_option maxHeartbeats 4000000 in
set_option maxRecDepth 100000 in
theorem c_X9_orderBlade (l : Launch) (E : cr_E) (hEK : cr_EK E) (S0 : cr_S) (G : cr_G) (p1 : Int32) : cr_M l E yX9_orderBlade wsX9_orderBlade rm_X9_orderBlade [.ref (E.2.1 9 0), .int p1] (cr_us S0 9 G) (cr_vIG S0 9) (s_X9_orderBlade p1 G) := by
  refine cr_enter (cc := cX9_orderBlade) (nL := 2) (rt := (some .int)) hEK (by decide) rfl (Nat.le_of_ble_eq_true rfl) (fun Γ hΓ X => ?_)
  subst hΓ
  have X : cr_X Γ E cX9_orderBlade 2 RX9 wsX9_orderBlade rm_X9_orderBlade (some .int) := X
  unfold s_X9_orderBlade
  show cr_P Γ E 2 _ 0 0 (cr_us S0 9 G) 0 ([(0, .ref (E.2.1 9 0)), (1, .int p1)]) [] _
  refine cr_aload_n X 0 rfl dX9_orderBlade_0 ?_
  refine cr_iconst X (0 : Int32) (by decide) dX9_orderBlade_1 ?_
  refine cr_putG X (cr_m0 E) 7 rfl rfl rfl i_X9_orderBlade_X9 tyX9 tyX9_ok nmX9 (by decide) k_X9_orderBlade_1 rfl rfl rfl (Nat.le_of_ble_eq_true rfl) dX9_orderBlade_2 (fun G2_1 => ?_)
  refine cr_aload_n X 0 rfl dX9_orderBlade_5 ?_
  refine cr_iload_n X 1 rfl dX9_orderBlade_6 ?_
  refine cr_callV X (As := [.int p1]) (rest := []) (c_X9_isTurbine Γ.2.1 E hEK S0 G2_1 p1) ((cr_m0 E).at (cr_row S0 9 G2_1 0) rfl) rfl 1 gX9_orderBlade_X9_isTurbine rfl rfl rfl (by decide +kernel) ⟨Nat.le_of_ble_eq_true rfl, Nat.le_of_ble_eq_true rfl⟩ (by decide) rfl rfl (Nat.le_of_ble_eq_true rfl) dX9_orderBlade_7 (fun r7_2 => ?_)
  show cr_P Γ E 2 _ 0 0 (cr_us S0 9 G2_1) 10 ([(0, .ref (E.2.1 9 0)), (1, .int p1)]) ([.int (cr_b r7_2)]) _
  refine cr_ifb_ne X 19 dX9_orderBlade_10 rfl ?_ ?_
  · refine cr_aload_n X 0 rfl dX9_orderBlade_19 ?_
    refine cr_get X ((cr_m0 E).at (cr_row S0 9 G2_1 0) rfl) rfl i_X9_orderBlade_X9 0 (by decide) k_X9_orderBlade_2 rfl dX9_orderBlade_20 ?_
    refine cr_sipush X (156 : Int32) (by decide) dX9_orderBlade_23 ?_
    refine cr_ialdk X 156 (by decide) (by decide) ((cr_m1 E).at (cr_row S0 9 G2_1 1) rfl) dX9_orderBlade_26 ?_
    refine cr_bipush X (10 : Int32) (by decide) dX9_orderBlade_27 ?_
    refine cr_icmp_ne X 38 dX9_orderBlade_29 rfl ?_ ?_
    · refine cr_aload_n X 0 rfl dX9_orderBlade_38 ?_
      refine cr_callV X (As := []) (rest := []) (c_X9_save Γ.2.1 E hEK S0 G2_1) ((cr_m0 E).at (cr_row S0 9 G2_1 0) rfl) rfl 0 gX9_orderBlade_X9_save rfl rfl rfl (by decide +kernel) ⟨Nat.le_of_ble_eq_true rfl, Nat.le_of_ble_eq_true rfl⟩ (by decide) rfl rfl (Nat.le_of_ble_eq_true rfl) dX9_orderBlade_39 (fun r39_3 => ?_)
      show cr_P Γ E 2 _ 0 0 (cr_us S0 9 r39_3) 42 ([(0, .ref (E.2.1 9 0)), (1, .int p1)]) ([]) _
      refine cr_aload_n X 0 rfl dX9_orderBlade_42 ?_
      refine cr_get X ((cr_m0 E).at (cr_row S0 9 r39_3 0) rfl) rfl i_X9_orderBlade_X9 0 (by decide) k_X9_orderBlade_2 rfl dX9_orderBlade_43 ?_
      refine cr_sipush X (157 : Int32) (by decide) dX9_orderBlade_46 ?_
      refine cr_aload_n X 0 rfl dX9_orderBlade_49 ?_
      refine cr_get X ((cr_m0 E).at (cr_row S0 9 r39_3 0) rfl) rfl i_X9_orderBlade_X9 0 (by decide) k_X9_orderBlade_2 rfl dX9_orderBlade_50 ?_
      refine cr_sipush X (156 : Int32) (by decide) dX9_orderBlade_53 ?_
      refine cr_ialdk X 156 (by decide) (by decide) ((cr_m1 E).at (cr_row S0 9 r39_3 1) rfl) dX9_orderBlade_56 ?_
      refine cr_iadd X dX9_orderBlade_57 ?_
      refine cr_iload_n X 1 rfl dX9_orderBlade_58 ?_
      refine cr_iastG X (cr_m1 E) (fun _ _ => rfl) dX9_orderBlade_59 (fun G59_4 => ?_)
      refine cr_aload_n X 0 rfl dX9_orderBlade_60 ?_
      refine cr_get X ((cr_m0 E).at (cr_row S0 9 G59_4 0) rfl) rfl i_X9_orderBlade_X9 0 (by decide) k_X9_orderBlade_2 rfl dX9_orderBlade_61 ?_
      refine cr_sipush X (167 : Int32) (by decide) dX9_orderBlade_64 ?_
      refine cr_aload_n X 0 rfl dX9_orderBlade_67 ?_
      refine cr_get X ((cr_m0 E).at (cr_row S0 9 G59_4 0) rfl) rfl i_X9_orderBlade_X9 0 (by decide) k_X9_orderBlade_2 rfl dX9_orderBlade_68 ?_
      refine cr_sipush X (156 : Int32) (by decide) dX9_orderBlade_71 ?_
      refine cr_ialdk X 156 (by decide) (by decide) ((cr_m1 E).at (cr_row S0 9 G59_4 1) rfl) dX9_orderBlade_74 ?_
      refine cr_iadd X dX9_orderBlade_75 ?_
      refine cr_aload_n X 0 rfl dX9_orderBlade_76 ?_
      refine cr_get X ((cr_m0 E).at (cr_row S0 9 G59_4 0) rfl) rfl i_X9_orderBlade_X9 0 (by decide) k_X9_orderBlade_2 rfl dX9_orderBlade_77 ?_
      refine cr_bipush X (10 : Int32) (by decide) dX9_orderBlade_80 ?_
      refine cr_iload_n X 1 rfl dX9_orderBlade_82 ?_
      refine cr_iadd X dX9_orderBlade_83 ?_
      refine cr_iald X ((cr_m1 E).at (cr_row S0 9 G59_4 1) rfl) dX9_orderBlade_84 ?_
      refine cr_bipush X (10 : Int32) (by decide) dX9_orderBlade_85 ?_
      refine cr_idivk X (by decide) dX9_orderBlade_87 ?_
      refine cr_iastG X (cr_m1 E) (fun _ _ => rfl) dX9_orderBlade_88 (fun G88_5 => ?_)
      refine cr_aload_n X 0 rfl dX9_orderBlade_89 ?_
      refine cr_get X ((cr_m0 E).at (cr_row S0 9 G88_5 0) rfl) rfl i_X9_orderBlade_X9 0 (by decide) k_X9_orderBlade_2 rfl dX9_orderBlade_90 ?_
      refine cr_sipush X (156 : Int32) (by decide) dX9_orderBlade_93 ?_
      refine cr_dup2 X rfl rfl dX9_orderBlade_96 ?_
      refine cr_ialdk X 156 (by decide) (by decide) ((cr_m1 E).at (cr_row S0 9 G88_5 1) rfl) dX9_orderBlade_97 ?_
      refine cr_iconst X (1 : Int32) (by decide) dX9_orderBlade_98 ?_
      refine cr_iadd X dX9_orderBlade_99 ?_
      refine cr_iastGk X 156 (cr_m1 E) (fun _ _ => rfl) (by decide) (by decide) dX9_orderBlade_100 (fun G100_6 => ?_)
      refine cr_aload_n X 0 rfl dX9_orderBlade_101 ?_
      refine cr_get X ((cr_m0 E).at (cr_row S0 9 G100_6 0) rfl) rfl i_X9_orderBlade_X9 0 (by decide) k_X9_orderBlade_2 rfl dX9_orderBlade_102 ?_
      refine cr_sipush X (156 : Int32) (by decide) dX9_orderBlade_105 ?_
      refine cr_ialdk X 156 (by decide) (by decide) ((cr_m1 E).at (cr_row S0 9 G100_6 1) rfl) dX9_orderBlade_108 ?_
      exact cr_iret X rfl rfl dX9_orderBlade_109
    · refine cr_aload_n X 0 rfl dX9_orderBlade_32 ?_
      refine cr_iconst X (2 : Int32) (by decide) dX9_orderBlade_33 ?_
      refine cr_callV X (As := [.int ((2 : Int32))]) (rest := []) (c_X9_fails Γ.2.1 E hEK S0 G2_1 ((2 : Int32))) ((cr_m0 E).at (cr_row S0 9 G2_1 0) rfl) rfl 1 gX9_orderBlade_X9_fails rfl rfl rfl (by decide +kernel) ⟨Nat.le_of_ble_eq_true rfl, Nat.le_of_ble_eq_true rfl⟩ (by decide) rfl rfl (Nat.le_of_ble_eq_true rfl) dX9_orderBlade_34 (fun r34_7 => ?_)
      show cr_P Γ E 2 _ 0 0 (cr_us S0 9 r34_7.2) 37 ([(0, .ref (E.2.1 9 0)), (1, .int p1)]) ([.int r34_7.1]) _
      exact cr_iret X rfl rfl dX9_orderBlade_37
  · refine cr_aload_n X 0 rfl dX9_orderBlade_13 ?_
    refine cr_iconst X (1 : Int32) (by decide) dX9_orderBlade_14 ?_
    refine cr_callV X (As := [.int ((1 : Int32))]) (rest := []) (c_X9_fails Γ.2.1 E hEK S0 G2_1 ((1 : Int32))) ((cr_m0 E).at (cr_row S0 9 G2_1 0) rfl) rfl 1 gX9_orderBlade_X9_fails rfl rfl rfl (by decide +kernel) ⟨Nat.le_of_ble_eq_true rfl, Nat.le_of_ble_eq_true rfl⟩ (by decide) rfl rfl (Nat.le_of_ble_eq_true rfl) dX9_orderBlade_15 (fun r15_8 => ?_)
    show cr_P Γ E 2 _ 0 0 (cr_us S0 9 r15_8.2) 18 ([(0, .ref (E.2.1 9 0)), (1, .int p1)]) ([.int r15_8.1]) _
    exact cr_iret X rfl rfl dX9_orderBlade_18
theorem c_X9_orderBlade_S (l : Launch) (E : cr_E) (hEK : cr_EK E) (S : cr_S) (p1 : Int32) : cr_M l E yX9_orderBlade wsX9_orderBlade rm_X9_orderBlade [.ref (E.2.1 9 0), .int p1] S (cr_vIG S 9) (s_X9_orderBlade  p1 (S.1 9)) := by
  have h := c_X9_orderBlade l E hEK S (S.1 9) p1
  rw [cr_us_self] at h
  exact h
theorem k_X9_pass_1 : (Cond.fieldLink RX9 28 "CraneCampaignModel" "thrown" "I") ∈ wsX9_pass := List.mem_of_getElem? (i := 1) (by rfl)
theorem k_X9_pass_2 : (Cond.fieldLink RX9 7 "CraneCampaignModel" "z" "[I") ∈ wsX9_pass := List.mem_of_getElem? (i := 2) (by rfl)
theorem i_X9_pass_X9 : ∀ w ∈ wsX90, w ∈ wsX9_pass := by decide +kernel
abbrev rm_X9_pass : Room := { frames := 4, cells := 0, slots := 0, locals := 101 }
set_option maxHeartbeats 4000000 in
set_option maxRecDepth 100000 in
theorem c_X9_pass (l : Launch) (E : cr_E) (hEK : cr_EK E) (S0 : cr_S) (G : cr_G) (p1 : Int32) : cr_M l E yX9_pass wsX9_pass rm_X9_pass [.ref (E.2.1 9 0), .int p1] (cr_us S0 9 G) (cr_vIG S0 9) (s_X9_pass p1 G) := by
  refine cr_enter (cc := cX9_pass) (nL := 2) (rt := (some .int)) hEK (by decide) rfl (Nat.le_of_ble_eq_true rfl) (fun Γ hΓ X => ?_)
  subst hΓ
  have X : cr_X Γ E cX9_pass 2 RX9 wsX9_pass rm_X9_pass (some .int) := X
  unfold s_X9_pass
  show cr_P Γ E 2 _ 0 0 (cr_us S0 9 G) 0 ([(0, .ref (E.2.1 9 0)), (1, .int p1)]) [] _
  refine cr_aload_n X 0 rfl dX9_pass_0 ?_
  refine cr_iconst X (0 : Int32) (by decide) dX9_pass_1 ?_
  refine cr_putG X (cr_m0 E) 7 rfl rfl rfl i_X9_pass_X9 tyX9 tyX9_ok nmX9 (by decide) k_X9_pass_1 rfl rfl rfl (Nat.le_of_ble_eq_true rfl) dX9_pass_2 (fun G2_1 => ?_)
  refine cr_iload_n X 1 rfl dX9_pass_5 ?_
  refine cr_iconst X (1 : Int32) (by decide) dX9_pass_6 ?_
  refine cr_sipush X (200 : Int32) (by decide) dX9_pass_7 ?_
  refine cr_callS X (As := [.int p1, .int ((1 : Int32)), .int ((200 : Int32))]) (rest := []) (c_X9_within Γ.2.1 E hEK ((cr_us S0 9 G2_1)) p1 ((1 : Int32)) ((200 : Int32))) 3 gX9_pass_X9_within rfl rfl rfl (by decide +kernel) ⟨Nat.le_of_ble_eq_true rfl, Nat.le_of_ble_eq_true rfl⟩ (by decide) rfl rfl (Nat.le_of_ble_eq_true rfl) dX9_pass_10 (fun r10_2 => ?_)
  show cr_P Γ E 2 _ 0 0 (cr_us S0 9 G2_1) 13 ([(0, .ref (E.2.1 9 0)), (1, .int p1)]) ([.int (cr_b r10_2)]) _
  refine cr_ifb_ne X 22 dX9_pass_13 rfl ?_ ?_
  · refine cr_aload_n X 0 rfl dX9_pass_22 ?_
    refine cr_get X ((cr_m0 E).at (cr_row S0 9 G2_1 0) rfl) rfl i_X9_pass_X9 0 (by decide) k_X9_pass_2 rfl dX9_pass_23 ?_
    refine cr_sipush X (182 : Int32) (by decide) dX9_pass_26 ?_
    refine cr_ialdk X 182 (by decide) (by decide) ((cr_m1 E).at (cr_row S0 9 G2_1 1) rfl) dX9_pass_29 ?_
    refine cr_iload_n X 1 rfl dX9_pass_30 ?_
    refine cr_iadd X dX9_pass_31 ?_
    refine cr_sipush X (10000 : Int32) (by decide) dX9_pass_32 ?_
    refine cr_icmp_le X 44 dX9_pass_35 rfl ?_ ?_
    · refine cr_aload_n X 0 rfl dX9_pass_44 ?_
      refine cr_callV X (As := []) (rest := []) (c_X9_save Γ.2.1 E hEK S0 G2_1) ((cr_m0 E).at (cr_row S0 9 G2_1 0) rfl) rfl 0 gX9_pass_X9_save rfl rfl rfl (by decide +kernel) ⟨Nat.le_of_ble_eq_true rfl, Nat.le_of_ble_eq_true rfl⟩ (by decide) rfl rfl (Nat.le_of_ble_eq_true rfl) dX9_pass_45 (fun r45_3 => ?_)
      show cr_P Γ E 2 _ 0 0 (cr_us S0 9 r45_3) 48 ([(0, .ref (E.2.1 9 0)), (1, .int p1)]) ([]) _
      refine cr_aload_n X 0 rfl dX9_pass_48 ?_
      refine cr_iload_n X 1 rfl dX9_pass_49 ?_
      refine cr_callV X (As := [.int p1]) (rest := []) (c_X9_goHours Γ.2.1 E hEK S0 r45_3 p1) ((cr_m0 E).at (cr_row S0 9 r45_3 0) rfl) rfl 1 gX9_pass_X9_goHours rfl rfl rfl (by decide +kernel) ⟨Nat.le_of_ble_eq_true rfl, Nat.le_of_ble_eq_true rfl⟩ (by decide) rfl rfl (Nat.le_of_ble_eq_true rfl) dX9_pass_50 (fun r50_4 => ?_)
      show cr_P Γ E 2 _ 0 0 (cr_us S0 9 r50_4.2) 53 ([(0, .ref (E.2.1 9 0)), (1, .int p1)]) ([.int r50_4.1]) _
      exact cr_iret X rfl rfl dX9_pass_53
    · refine cr_aload_n X 0 rfl dX9_pass_38 ?_
      refine cr_iconst X (2 : Int32) (by decide) dX9_pass_39 ?_
      refine cr_callV X (As := [.int ((2 : Int32))]) (rest := []) (c_X9_fails Γ.2.1 E hEK S0 G2_1 ((2 : Int32))) ((cr_m0 E).at (cr_row S0 9 G2_1 0) rfl) rfl 1 gX9_pass_X9_fails rfl rfl rfl (by decide +kernel) ⟨Nat.le_of_ble_eq_true rfl, Nat.le_of_ble_eq_true rfl⟩ (by decide) rfl rfl (Nat.le_of_ble_eq_true rfl) dX9_pass_40 (fun r40_5 => ?_)
      show cr_P Γ E 2 _ 0 0 (cr_us S0 9 r40_5.2) 43 ([(0, .ref (E.2.1 9 0)), (1, .int p1)]) ([.int r40_5.1]) _
      exact cr_iret X rfl rfl dX9_pass_43
  · refine cr_aload_n X 0 rfl dX9_pass_16 ?_
    refine cr_iconst X (1 : Int32) (by decide) dX9_pass_17 ?_
    refine cr_callV X (As := [.int ((1 : Int32))]) (rest := []) (c_X9_fails Γ.2.1 E hEK S0 G2_1 ((1 : Int32))) ((cr_m0 E).at (cr_row S0 9 G2_1 0) rfl) rfl 1 gX9_pass_X9_fails rfl rfl rfl (by decide +kernel) ⟨Nat.le_of_ble_eq_true rfl, Nat.le_of_ble_eq_true rfl⟩ (by decide) rfl rfl (Nat.le_of_ble_eq_true rfl) dX9_pass_18 (fun r18_6 => ?_)
    show cr_P Γ E 2 _ 0 0 (cr_us S0 9 r18_6.2) 21 ([(0, .ref (E.2.1 9 0)), (1, .int p1)]) ([.int r18_6.1]) _
    exact cr_iret X rfl rfl dX9_pass_21
theorem c_X9_pass_S (l : Launch) (E : cr_E) (hEK : cr_EK E) (S : cr_S) (p1 : Int32) : cr_M l E yX9_pass wsX9_pass rm_X9_pass [.ref (E.2.1 9 0), .int p1] S (cr_vIG S 9) (s_X9_pass  p1 (S.1 9)) := by
  have h := c_X9_pass l E hEK S (S.1 9) p1
  rw [cr_us_self] at h
  exact h
theorem k_X9_plan_1 : (Cond.fieldLink RX9 28 "CraneCampaignModel" "thrown" "I") ∈ wsX9_plan := List.mem_of_getElem? (i := 1) (by rfl)
theorem k_X9_plan_2 : (Cond.fieldLink RX9 7 "CraneCampaignModel" "z" "[I") ∈ wsX9_plan := List.mem_of_getElem? (i := 2) (by rfl)
theorem i_X9_plan_X9 : ∀ w ∈ wsX90, w ∈ wsX9_plan := by decide +kernel
abbrev rm_X9_plan : Room := { frames := 2, cells := 0, slots := 0, locals := 43 }
set_option maxHeartbeats 4000000 in
set_option maxRecDepth 100000 in
theorem b_X9_plan_86 {Γ : cr_C} {E : cr_E} (X : cr_X Γ E cX9_plan 6 RX9 wsX9_plan rm_X9_plan (some .int)) (S0 : cr_S) : ∀ (n : Nat) (x1 : Int32) (x2 : Int32) (x5 : Int32) (G : cr_G), cr_P Γ E 6 (cr_F Γ E (cr_vIG S0 9)) 0 0 (cr_us S0 9 G) 86 ([(0, .ref (E.2.1 9 0)), (1, .int x1), (2, .int x2), (5, .int x5)]) ([]) (s_X9_plan_86 n x1 x2 x5 G) := by
  have hEK := X.2.2.2.2.2.2.1
  intro n
  induction n with
  | zero => intro x1 x2 x5 G; exact cr_none
  | succ n ih =>
    intro x1 x2 x5 G
    rw [s_X9_plan_86]
    refine cr_iload X 3 rfl dX9_plan_86 ?_
    refine cr_iload_n X 2 rfl dX9_plan_88 ?_
    refine cr_icmp_le X 122 dX9_plan_89 rfl ?_ ?_
    · refine cr_aload_n X 0 rfl dX9_plan_122 ?_
      refine cr_get X ((cr_m0 E).at (cr_row S0 9 G 0) rfl) rfl i_X9_plan_X9 0 (by decide) k_X9_plan_2 rfl dX9_plan_123 ?_
      refine cr_sipush X (146 : Int32) (by decide) dX9_plan_126 ?_
      refine cr_iload_n X 2 rfl dX9_plan_129 ?_
      refine cr_iadd X dX9_plan_130 ?_
      refine cr_iload_n X 1 rfl dX9_plan_131 ?_
      refine cr_iastG X (cr_m1 E) (fun _ _ => rfl) dX9_plan_132 (fun G132_12 => ?_)
      refine cr_aload_n X 0 rfl dX9_plan_133 ?_
      refine cr_get X ((cr_m0 E).at (cr_row S0 9 G132_12 0) rfl) rfl i_X9_plan_X9 0 (by decide) k_X9_plan_2 rfl dX9_plan_134 ?_
      refine cr_sipush X (145 : Int32) (by decide) dX9_plan_137 ?_
      refine cr_dup2 X rfl rfl dX9_plan_140 ?_
      refine cr_ialdk X 145 (by decide) (by decide) ((cr_m1 E).at (cr_row S0 9 G132_12 1) rfl) dX9_plan_141 ?_
      refine cr_iconst X (1 : Int32) (by decide) dX9_plan_142 ?_
      refine cr_iadd X dX9_plan_143 ?_
      refine cr_iastGk X 145 (cr_m1 E) (fun _ _ => rfl) (by decide) (by decide) dX9_plan_144 (fun G144_13 => ?_)
      refine cr_aload_n X 0 rfl dX9_plan_145 ?_
      refine cr_get X ((cr_m0 E).at (cr_row S0 9 G144_13 0) rfl) rfl i_X9_plan_X9 0 (by decide) k_X9_plan_2 rfl dX9_plan_146 ?_
      refine cr_sipush X (145 : Int32) (by decide) dX9_plan_149 ?_
      refine cr_ialdk X 145 (by decide) (by decide) ((cr_m1 E).at (cr_row S0 9 G144_13 1) rfl) dX9_plan_152 ?_
      exact cr_iret X rfl rfl dX9_plan_153
    · refine cr_aload_n X 0 rfl dX9_plan_92 ?_
      refine cr_get X ((cr_m0 E).at (cr_row S0 9 G 0) rfl) rfl i_X9_plan_X9 0 (by decide) k_X9_plan_2 rfl dX9_plan_93 ?_
      refine cr_sipush X (146 : Int32) (by decide) dX9_plan_96 ?_
      refine cr_iload X 3 rfl dX9_plan_99 ?_
      refine cr_iadd X dX9_plan_101 ?_
      refine cr_aload_n X 0 rfl dX9_plan_102 ?_
      refine cr_get X ((cr_m0 E).at (cr_row S0 9 G 0) rfl) rfl i_X9_plan_X9 0 (by decide) k_X9_plan_2 rfl dX9_plan_103 ?_
      refine cr_sipush X (146 : Int32) (by decide) dX9_plan_106 ?_
      refine cr_iload X 3 rfl dX9_plan_109 ?_
      refine cr_iadd X dX9_plan_111 ?_
      refine cr_iconst X (1 : Int32) (by decide) dX9_plan_112 ?_
      refine cr_isub X dX9_plan_113 ?_
      refine cr_iald X ((cr_m1 E).at (cr_row S0 9 G 1) rfl) dX9_plan_114 ?_
      refine cr_iastG X (cr_m1 E) (fun _ _ => rfl) dX9_plan_115 (fun G115_14 => ?_)
      refine cr_iinc X (x5 + (-1)) (fun v116_15 => [(5, .int v116_15), (0, .ref (E.2.1 9 0)), (1, .int x1), (2, .int x2)]) 3 rfl (congrArg (fun z => x5 + z) (show Int32.ofInt (-1) = (-1 : Int32) by decide)) (fun _ => rfl) (by decide) dX9_plan_116 (fun v116_15 => ?_)
      refine cr_goto X 86 dX9_plan_119 rfl ?_
      refine cr_sub (lv' := [(0, .ref (E.2.1 9 0)), (1, .int x1), (2, .int x2), (5, .int v116_15)]) [1, 2, 3, 0] rfl ?_
      exact ih x1 x2 v116_15 G115_14
set_option maxHeartbeats 4000000 in
set_option maxRecDepth 100000 in
theorem b_X9_plan_43 {Γ : cr_C} {E : cr_E} (X : cr_X Γ E cX9_plan 6 RX9 wsX9_plan rm_X9_plan (some .int)) (S0 : cr_S) (x1 : Int32) (x2 : Int32) (x3 : Int32) (y0 : Int32) (y1 : Int32) (G : cr_G) : cr_P Γ E 6 (cr_F Γ E (cr_vIG S0 9)) 0 0 (cr_us S0 9 G) 43 ([(0, .ref (E.2.1 9 0)), (1, .int x1), (2, .int x2), (3, .int x3)]) ([.int y0, .int y1]) (s_X9_plan_43 x1 x2 x3 y0 y1 G) := by
  have hEK := X.2.2.2.2.2.2.1
  unfold s_X9_plan_43
  refine cr_isub X dX9_plan_43 ?_
  refine cr_istoreb X (fun v44_5 => [(4, .int v44_5), (0, .ref (E.2.1 9 0)), (1, .int x1), (2, .int x2), (3, .int x3)]) (fun _ => rfl) (by decide) dX9_plan_44 (fun v44_5 => ?_)
  refine cr_iload_n X 3 rfl dX9_plan_46 ?_
  refine cr_iconst X (0 : Int32) (by decide) dX9_plan_47 ?_
  refine cr_iload X 0 rfl dX9_plan_48 ?_
  refine cr_callS X (As := [.int x2, .int ((0 : Int32)), .int v44_5]) (rest := []) (c_X9_within Γ.2.1 E hEK ((cr_us S0 9 G)) x2 ((0 : Int32)) v44_5) 3 gX9_plan_X9_within rfl rfl rfl (by decide +kernel) ⟨Nat.le_of_ble_eq_true rfl, Nat.le_of_ble_eq_true rfl⟩ (by decide) rfl rfl (Nat.le_of_ble_eq_true rfl) dX9_plan_50 (fun r50_6 => ?_)
  show cr_P Γ E 6 _ 0 0 (cr_us S0 9 G) 53 ([(4, .int v44_5), (0, .ref (E.2.1 9 0)), (1, .int x1), (2, .int x2), (3, .int x3)]) ([.int (cr_b r50_6)]) _
  refine cr_ifb_ne X 62 dX9_plan_53 rfl ?_ ?_
  · refine cr_aload_n X 1 rfl dX9_plan_62 ?_
    refine cr_callV X (As := []) (rest := []) (c_X9_save Γ.2.1 E hEK S0 G) ((cr_m0 E).at (cr_row S0 9 G 0) rfl) rfl 0 gX9_plan_X9_save rfl rfl rfl (by decide +kernel) ⟨Nat.le_of_ble_eq_true rfl, Nat.le_of_ble_eq_true rfl⟩ (by decide) rfl rfl (Nat.le_of_ble_eq_true rfl) dX9_plan_63 (fun r63_7 => ?_)
    show cr_P Γ E 6 _ 0 0 (cr_us S0 9 r63_7) 66 ([(4, .int v44_5), (0, .ref (E.2.1 9 0)), (1, .int x1), (2, .int x2), (3, .int x3)]) ([]) _
    refine cr_iload_n X 4 rfl dX9_plan_66 ?_
    refine cr_iconst X (-1 : Int32) (by decide) dX9_plan_67 ?_
    refine cr_icmp_eq X 76 dX9_plan_68 rfl ?_ ?_
    · refine cr_aload_n X 1 rfl dX9_plan_76 ?_
      refine cr_get X ((cr_m0 E).at (cr_row S0 9 r63_7 0) rfl) rfl i_X9_plan_X9 0 (by decide) k_X9_plan_2 rfl dX9_plan_77 ?_
      refine cr_sipush X (145 : Int32) (by decide) dX9_plan_80 ?_
      refine cr_ialdk X 145 (by decide) (by decide) ((cr_m1 E).at (cr_row S0 9 r63_7 1) rfl) dX9_plan_83 ?_
      refine cr_istoreb X (fun v84_8 => [(5, .int v84_8), (4, .int v44_5), (0, .ref (E.2.1 9 0)), (1, .int x1), (2, .int x2), (3, .int x3)]) (fun _ => rfl) (by decide) dX9_plan_84 (fun v84_8 => ?_)
      refine cr_sub (lv' := [(0, .ref (E.2.1 9 0)), (1, .int x1), (2, .int x2), (5, .int v84_8)]) [2, 3, 4, 0] rfl ?_
      exact b_X9_plan_86 X S0 1200 x1 x2 v84_8 r63_7
    · refine cr_aload_n X 1 rfl dX9_plan_71 ?_
      refine cr_iload_n X 4 rfl dX9_plan_72 ?_
      refine cr_callV X (As := [.int x3]) (rest := []) (c_X9_takeOff Γ.2.1 E hEK S0 r63_7 x3) ((cr_m0 E).at (cr_row S0 9 r63_7 0) rfl) rfl 1 gX9_plan_X9_takeOff rfl rfl rfl (by decide +kernel) ⟨Nat.le_of_ble_eq_true rfl, Nat.le_of_ble_eq_true rfl⟩ (by decide) rfl rfl (Nat.le_of_ble_eq_true rfl) dX9_plan_73 (fun r73_9 => ?_)
      show cr_P Γ E 6 _ 0 0 (cr_us S0 9 r73_9) 76 ([(4, .int v44_5), (0, .ref (E.2.1 9 0)), (1, .int x1), (2, .int x2), (3, .int x3)]) ([]) _
      refine cr_aload_n X 1 rfl dX9_plan_76 ?_
      refine cr_get X ((cr_m0 E).at (cr_row S0 9 r73_9 0) rfl) rfl i_X9_plan_X9 0 (by decide) k_X9_plan_2 rfl dX9_plan_77 ?_
      refine cr_sipush X (145 : Int32) (by decide) dX9_plan_80 ?_
      refine cr_ialdk X 145 (by decide) (by decide) ((cr_m1 E).at (cr_row S0 9 r73_9 1) rfl) dX9_plan_83 ?_
      refine cr_istoreb X (fun v84_10 => [(5, .int v84_10), (4, .int v44_5), (0, .ref (E.2.1 9 0)), (1, .int x1), (2, .int x2), (3, .int x3)]) (fun _ => rfl) (by decide) dX9_plan_84 (fun v84_10 => ?_)
      refine cr_sub (lv' := [(0, .ref (E.2.1 9 0)), (1, .int x1), (2, .int x2), (5, .int v84_10)]) [2, 3, 4, 0] rfl ?_
      exact b_X9_plan_86 X S0 1200 x1 x2 v84_10 r73_9
  · refine cr_aload_n X 1 rfl dX9_plan_56 ?_
    refine cr_iconst X (1 : Int32) (by decide) dX9_plan_57 ?_
    refine cr_callV X (As := [.int ((1 : Int32))]) (rest := []) (c_X9_fails Γ.2.1 E hEK S0 G ((1 : Int32))) ((cr_m0 E).at (cr_row S0 9 G 0) rfl) rfl 1 gX9_plan_X9_fails rfl rfl rfl (by decide +kernel) ⟨Nat.le_of_ble_eq_true rfl, Nat.le_of_ble_eq_true rfl⟩ (by decide) rfl rfl (Nat.le_of_ble_eq_true rfl) dX9_plan_58 (fun r58_11 => ?_)
    show cr_P Γ E 6 _ 0 0 (cr_us S0 9 r58_11.2) 61 ([(4, .int v44_5), (0, .ref (E.2.1 9 0)), (1, .int x1), (2, .int x2), (3, .int x3)]) ([.int r58_11.1]) _
    exact cr_iret X rfl rfl dX9_plan_61
set_option maxHeartbeats 4000000 in
set_option maxRecDepth 100000 in
theorem c_X9_plan (l : Launch) (E : cr_E) (hEK : cr_EK E) (S0 : cr_S) (G : cr_G) (p1 : Int32) (p2 : Int32) : cr_M l E yX9_plan wsX9_plan rm_X9_plan [.ref (E.2.1 9 0), .int p1, .int p2] (cr_us S0 9 G) (cr_vIG S0 9) (s_X9_plan p1 p2 G) := by
  refine cr_enter (cc := cX9_plan) (nL := 6) (rt := (some .int)) hEK (by decide) rfl (Nat.le_of_ble_eq_true rfl) (fun Γ hΓ X => ?_)
  subst hΓ
  have X : cr_X Γ E cX9_plan 6 RX9 wsX9_plan rm_X9_plan (some .int) := X
  unfold s_X9_plan
  show cr_P Γ E 6 _ 0 0 (cr_us S0 9 G) 0 ([(0, .ref (E.2.1 9 0)), (1, .int p1), (2, .int p2)]) [] _
  refine cr_aload_n X 0 rfl dX9_plan_0 ?_
  refine cr_iconst X (0 : Int32) (by decide) dX9_plan_1 ?_
  refine cr_putG X (cr_m0 E) 7 rfl rfl rfl i_X9_plan_X9 tyX9 tyX9_ok nmX9 (by decide) k_X9_plan_1 rfl rfl rfl (Nat.le_of_ble_eq_true rfl) dX9_plan_2 (fun G2_1 => ?_)
  refine cr_aload_n X 0 rfl dX9_plan_5 ?_
  refine cr_iload_n X 1 rfl dX9_plan_6 ?_
  refine cr_callV X (As := [.int p1]) (rest := []) (c_X9_isTurbine Γ.2.1 E hEK S0 G2_1 p1) ((cr_m0 E).at (cr_row S0 9 G2_1 0) rfl) rfl 1 gX9_plan_X9_isTurbine rfl rfl rfl (by decide +kernel) ⟨Nat.le_of_ble_eq_true rfl, Nat.le_of_ble_eq_true rfl⟩ (by decide) rfl rfl (Nat.le_of_ble_eq_true rfl) dX9_plan_7 (fun r7_2 => ?_)
  show cr_P Γ E 6 _ 0 0 (cr_us S0 9 G2_1) 10 ([(0, .ref (E.2.1 9 0)), (1, .int p1), (2, .int p2)]) ([.int (cr_b r7_2)]) _
  refine cr_ifb_ne X 19 dX9_plan_10 rfl ?_ ?_
  · refine cr_aload_n X 0 rfl dX9_plan_19 ?_
    refine cr_iload_n X 1 rfl dX9_plan_20 ?_
    refine cr_callV X (As := [.int p1]) (rest := []) (c_X9_placeOf Γ.2.1 E hEK S0 G2_1 p1) ((cr_m0 E).at (cr_row S0 9 G2_1 0) rfl) rfl 1 gX9_plan_X9_placeOf rfl rfl rfl (by decide +kernel) ⟨Nat.le_of_ble_eq_true rfl, Nat.le_of_ble_eq_true rfl⟩ (by decide) rfl rfl (Nat.le_of_ble_eq_true rfl) dX9_plan_21 (fun r21_3 => ?_)
    show cr_P Γ E 6 _ 0 0 (cr_us S0 9 G2_1) 24 ([(0, .ref (E.2.1 9 0)), (1, .int p1), (2, .int p2)]) ([.int r21_3]) _
    refine cr_istore_n X ([(3, .int r21_3), (0, .ref (E.2.1 9 0)), (1, .int p1), (2, .int p2)]) rfl (by decide) dX9_plan_24 ?_
    refine cr_aload_n X 1 rfl dX9_plan_25 ?_
    refine cr_get X ((cr_m0 E).at (cr_row S0 9 G2_1 0) rfl) rfl i_X9_plan_X9 0 (by decide) k_X9_plan_2 rfl dX9_plan_26 ?_
    refine cr_sipush X (145 : Int32) (by decide) dX9_plan_29 ?_
    refine cr_ialdk X 145 (by decide) (by decide) ((cr_m1 E).at (cr_row S0 9 G2_1 1) rfl) dX9_plan_32 ?_
    refine cr_iload_n X 0 rfl dX9_plan_33 ?_
    refine cr_iconst X (-1 : Int32) (by decide) dX9_plan_34 ?_
    refine cr_icmp_ne X 42 dX9_plan_35 rfl ?_ ?_
    · refine cr_iconst X (1 : Int32) (by decide) dX9_plan_42 ?_
      refine cr_sub (lv' := [(0, .ref (E.2.1 9 0)), (1, .int p1), (2, .int p2), (3, .int r21_3)]) [1, 2, 3, 0] rfl ?_
      exact b_X9_plan_43 X S0 p1 p2 r21_3 ((1 : Int32)) (((G2_1 1) 145)) G2_1
    · refine cr_iconst X (0 : Int32) (by decide) dX9_plan_38 ?_
      refine cr_goto X 43 dX9_plan_39 rfl ?_
      refine cr_sub (lv' := [(0, .ref (E.2.1 9 0)), (1, .int p1), (2, .int p2), (3, .int r21_3)]) [1, 2, 3, 0] rfl ?_
      exact b_X9_plan_43 X S0 p1 p2 r21_3 ((0 : Int32)) (((G2_1 1) 145)) G2_1
  · refine cr_aload_n X 0 rfl dX9_plan_13 ?_
    refine cr_iconst X (1 : Int32) (by decide) dX9_plan_14 ?_
    refine cr_callV X (As := [.int ((1 : Int32))]) (rest := []) (c_X9_fails Γ.2.1 E hEK S0 G2_1 ((1 : Int32))) ((cr_m0 E).at (cr_row S0 9 G2_1 0) rfl) rfl 1 gX9_plan_X9_fails rfl rfl rfl (by decide +kernel) ⟨Nat.le_of_ble_eq_true rfl, Nat.le_of_ble_eq_true rfl⟩ (by decide) rfl rfl (Nat.le_of_ble_eq_true rfl) dX9_plan_15 (fun r15_4 => ?_)
    show cr_P Γ E 6 _ 0 0 (cr_us S0 9 r15_4.2) 18 ([(0, .ref (E.2.1 9 0)), (1, .int p1), (2, .int p2)]) ([.int r15_4.1]) _
    exact cr_iret X rfl rfl dX9_plan_18
theorem c_X9_plan_S (l : Launch) (E : cr_E) (hEK : cr_EK E) (S : cr_S) (p1 : Int32) (p2 : Int32) : cr_M l E yX9_plan wsX9_plan rm_X9_plan [.ref (E.2.1 9 0), .int p1, .int p2] S (cr_vIG S 9) (s_X9_plan  p1 p2 (S.1 9)) := by
  have h := c_X9_plan l E hEK S (S.1 9) p1 p2
  rw [cr_us_self] at h
  exact h
theorem k_X9_set_1 : (Cond.fieldLink RX9 28 "CraneCampaignModel" "thrown" "I") ∈ wsX9_set := List.mem_of_getElem? (i := 1) (by rfl)
theorem k_X9_set_2 : (Cond.fieldLink RX9 7 "CraneCampaignModel" "z" "[I") ∈ wsX9_set := List.mem_of_getElem? (i := 2) (by rfl)
theorem i_X9_set_X9 : ∀ w ∈ wsX90, w ∈ wsX9_set := by decide +kernel
abbrev rm_X9_set : Room := { frames := 1, cells := 0, slots := 0, locals := 22 }
set_option maxHeartbeats 4000000 in
set_option maxRecDepth 100000 in
theorem c_X9_set (l : Launch) (E : cr_E) (hEK : cr_EK E) (S0 : cr_S) (G : cr_G) (p1 : Int32) (p2 : Int32) : cr_M l E yX9_set wsX9_set rm_X9_set [.ref (E.2.1 9 0), .int p1, .int p2] (cr_us S0 9 G) (cr_vIG S0 9) (s_X9_set p1 p2 G) := by
  refine cr_enter (cc := cX9_set) (nL := 4) (rt := (some .int)) hEK (by decide) rfl (Nat.le_of_ble_eq_true rfl) (fun Γ hΓ X => ?_)
  subst hΓ
  have X : cr_X Γ E cX9_set 4 RX9 wsX9_set rm_X9_set (some .int) := X
  unfold s_X9_set
  show cr_P Γ E 4 _ 0 0 (cr_us S0 9 G) 0 ([(0, .ref (E.2.1 9 0)), (1, .int p1), (2, .int p2)]) [] _
  refine cr_aload_n X 0 rfl dX9_set_0 ?_
  refine cr_iconst X (0 : Int32) (by decide) dX9_set_1 ?_
  refine cr_putG X (cr_m0 E) 7 rfl rfl rfl i_X9_set_X9 tyX9 tyX9_ok nmX9 (by decide) k_X9_set_1 rfl rfl rfl (Nat.le_of_ble_eq_true rfl) dX9_set_2 (fun G2_1 => ?_)
  refine cr_iload_n X 1 rfl dX9_set_5 ?_
  refine cr_iconst X (0 : Int32) (by decide) dX9_set_6 ?_
  refine cr_bipush X (6 : Int32) (by decide) dX9_set_7 ?_
  refine cr_callS X (As := [.int p1, .int ((0 : Int32)), .int ((6 : Int32))]) (rest := []) (c_X9_within Γ.2.1 E hEK ((cr_us S0 9 G2_1)) p1 ((0 : Int32)) ((6 : Int32))) 3 gX9_set_X9_within rfl rfl rfl (by decide +kernel) ⟨Nat.le_of_ble_eq_true rfl, Nat.le_of_ble_eq_true rfl⟩ (by decide) rfl rfl (Nat.le_of_ble_eq_true rfl) dX9_set_9 (fun r9_2 => ?_)
  show cr_P Γ E 4 _ 0 0 (cr_us S0 9 G2_1) 12 ([(0, .ref (E.2.1 9 0)), (1, .int p1), (2, .int p2)]) ([.int (cr_b r9_2)]) _
  refine cr_ifb_ne X 21 dX9_set_12 rfl ?_ ?_
  · refine cr_iload_n X 2 rfl dX9_set_21 ?_
    refine cr_iload_n X 1 rfl dX9_set_22 ?_
    refine cr_callS X (As := [.int p1]) (rest := [.int p2]) (c_X9_lowest Γ.2.1 E hEK ((cr_us S0 9 G2_1)) p1) 1 gX9_set_X9_lowest rfl rfl rfl (by decide +kernel) ⟨Nat.le_of_ble_eq_true rfl, Nat.le_of_ble_eq_true rfl⟩ (by decide) rfl rfl (Nat.le_of_ble_eq_true rfl) dX9_set_23 (fun r23_3 => ?_)
    show cr_P Γ E 4 _ 0 0 (cr_us S0 9 G2_1) 26 ([(0, .ref (E.2.1 9 0)), (1, .int p1), (2, .int p2)]) ([.int r23_3, .int p2]) _
    refine cr_iload_n X 1 rfl dX9_set_26 ?_
    refine cr_callS X (As := [.int p1]) (rest := [.int r23_3, .int p2]) (c_X9_highest Γ.2.1 E hEK ((cr_us S0 9 G2_1)) p1) 1 gX9_set_X9_highest rfl rfl rfl (by decide +kernel) ⟨Nat.le_of_ble_eq_true rfl, Nat.le_of_ble_eq_true rfl⟩ (by decide) rfl rfl (Nat.le_of_ble_eq_true rfl) dX9_set_27 (fun r27_4 => ?_)
    show cr_P Γ E 4 _ 0 0 (cr_us S0 9 G2_1) 30 ([(0, .ref (E.2.1 9 0)), (1, .int p1), (2, .int p2)]) ([.int r27_4, .int r23_3, .int p2]) _
    refine cr_callS X (As := [.int p2, .int r23_3, .int r27_4]) (rest := []) (c_X9_within Γ.2.1 E hEK ((cr_us S0 9 G2_1)) p2 r23_3 r27_4) 3 gX9_set_X9_within rfl rfl rfl (by decide +kernel) ⟨Nat.le_of_ble_eq_true rfl, Nat.le_of_ble_eq_true rfl⟩ (by decide) rfl rfl (Nat.le_of_ble_eq_true rfl) dX9_set_30 (fun r30_5 => ?_)
    show cr_P Γ E 4 _ 0 0 (cr_us S0 9 G2_1) 33 ([(0, .ref (E.2.1 9 0)), (1, .int p1), (2, .int p2)]) ([.int (cr_b r30_5)]) _
    refine cr_ifb_ne X 42 dX9_set_33 rfl ?_ ?_
    · refine cr_aload_n X 0 rfl dX9_set_42 ?_
      refine cr_callV X (As := []) (rest := []) (c_X9_save Γ.2.1 E hEK S0 G2_1) ((cr_m0 E).at (cr_row S0 9 G2_1 0) rfl) rfl 0 gX9_set_X9_save rfl rfl rfl (by decide +kernel) ⟨Nat.le_of_ble_eq_true rfl, Nat.le_of_ble_eq_true rfl⟩ (by decide) rfl rfl (Nat.le_of_ble_eq_true rfl) dX9_set_43 (fun r43_6 => ?_)
      show cr_P Γ E 4 _ 0 0 (cr_us S0 9 r43_6) 46 ([(0, .ref (E.2.1 9 0)), (1, .int p1), (2, .int p2)]) ([]) _
      refine cr_aload_n X 0 rfl dX9_set_46 ?_
      refine cr_get X ((cr_m0 E).at (cr_row S0 9 r43_6 0) rfl) rfl i_X9_set_X9 0 (by decide) k_X9_set_2 rfl dX9_set_47 ?_
      refine cr_bipush X (71 : Int32) (by decide) dX9_set_50 ?_
      refine cr_iload_n X 1 rfl dX9_set_52 ?_
      refine cr_iadd X dX9_set_53 ?_
      refine cr_iald X ((cr_m1 E).at (cr_row S0 9 r43_6 1) rfl) dX9_set_54 ?_
      refine cr_istore_nb X (fun v55_7 => [(3, .int v55_7), (0, .ref (E.2.1 9 0)), (1, .int p1), (2, .int p2)]) (fun _ => rfl) (by decide) dX9_set_55 (fun v55_7 => ?_)
      refine cr_aload_n X 1 rfl dX9_set_56 ?_
      refine cr_get X ((cr_m0 E).at (cr_row S0 9 r43_6 0) rfl) rfl i_X9_set_X9 0 (by decide) k_X9_set_2 rfl dX9_set_57 ?_
      refine cr_bipush X (71 : Int32) (by decide) dX9_set_60 ?_
      refine cr_iload_n X 2 rfl dX9_set_62 ?_
      refine cr_iadd X dX9_set_63 ?_
      refine cr_iload_n X 3 rfl dX9_set_64 ?_
      refine cr_iastG X (cr_m1 E) (fun _ _ => rfl) dX9_set_65 (fun G65_8 => ?_)
      refine cr_iload_n X 0 rfl dX9_set_66 ?_
      exact cr_iret X rfl rfl dX9_set_67
    · refine cr_aload_n X 0 rfl dX9_set_36 ?_
      refine cr_iconst X (2 : Int32) (by decide) dX9_set_37 ?_
      refine cr_callV X (As := [.int ((2 : Int32))]) (rest := []) (c_X9_fails Γ.2.1 E hEK S0 G2_1 ((2 : Int32))) ((cr_m0 E).at (cr_row S0 9 G2_1 0) rfl) rfl 1 gX9_set_X9_fails rfl rfl rfl (by decide +kernel) ⟨Nat.le_of_ble_eq_true rfl, Nat.le_of_ble_eq_true rfl⟩ (by decide) rfl rfl (Nat.le_of_ble_eq_true rfl) dX9_set_38 (fun r38_9 => ?_)
      show cr_P Γ E 4 _ 0 0 (cr_us S0 9 r38_9.2) 41 ([(0, .ref (E.2.1 9 0)), (1, .int p1), (2, .int p2)]) ([.int r38_9.1]) _
      exact cr_iret X rfl rfl dX9_set_41
  · refine cr_aload_n X 0 rfl dX9_set_15 ?_
    refine cr_iconst X (1 : Int32) (by decide) dX9_set_16 ?_
    refine cr_callV X (As := [.int ((1 : Int32))]) (rest := []) (c_X9_fails Γ.2.1 E hEK S0 G2_1 ((1 : Int32))) ((cr_m0 E).at (cr_row S0 9 G2_1 0) rfl) rfl 1 gX9_set_X9_fails rfl rfl rfl (by decide +kernel) ⟨Nat.le_of_ble_eq_true rfl, Nat.le_of_ble_eq_true rfl⟩ (by decide) rfl rfl (Nat.le_of_ble_eq_true rfl) dX9_set_17 (fun r17_10 => ?_)
    show cr_P Γ E 4 _ 0 0 (cr_us S0 9 r17_10.2) 20 ([(0, .ref (E.2.1 9 0)), (1, .int p1), (2, .int p2)]) ([.int r17_10.1]) _
    exact cr_iret X rfl rfl dX9_set_20
theorem c_X9_set_S (l : Launch) (E : cr_E) (hEK : cr_EK E) (S : cr_S) (p1 : Int32) (p2 : Int32) : cr_M l E yX9_set wsX9_set rm_X9_set [.ref (E.2.1 9 0), .int p1, .int p2] S (cr_vIG S 9) (s_X9_set  p1 p2 (S.1 9)) := by
  have h := c_X9_set l E hEK S (S.1 9) p1 p2
  rw [cr_us_self] at h
  exact h
theorem k_X9_setBog_1 : (Cond.fieldLink RX9 28 "CraneCampaignModel" "thrown" "I") ∈ wsX9_setBog := List.mem_of_getElem? (i := 1) (by rfl)
theorem k_X9_setBog_2 : (Cond.fieldLink RX9 7 "CraneCampaignModel" "z" "[I") ∈ wsX9_setBog := List.mem_of_getElem? (i := 2) (by rfl)
theorem i_X9_setBog_X9 : ∀ w ∈ wsX90, w ∈ wsX9_setBog := by decide +kernel
abbrev rm_X9_setBog : Room := { frames := 1, cells := 0, slots := 0, locals := 22 }
set_option maxHeartbeats 4000000 in
set_option maxRecDepth 100000 in
theorem b_X9_setBog_25 {Γ : cr_C} {E : cr_E} (X : cr_X Γ E cX9_setBog 6 RX9 wsX9_setBog rm_X9_setBog (some .int)) (S0 : cr_S)  (G : cr_G) : cr_P Γ E 6 (cr_F Γ E (cr_vIG S0 9)) 0 0 (cr_us S0 9 G) 25 ([(0, .ref (E.2.1 9 0))]) ([]) (s_X9_setBog_25 G) := by
  have hEK := X.2.2.2.2.2.2.1
  unfold s_X9_setBog_25
  refine cr_aload_n X 0 rfl dX9_setBog_25 ?_
  refine cr_iconst X (1 : Int32) (by decide) dX9_setBog_26 ?_
  refine cr_callV X (As := [.int ((1 : Int32))]) (rest := []) (c_X9_fails Γ.2.1 E hEK S0 G ((1 : Int32))) ((cr_m0 E).at (cr_row S0 9 G 0) rfl) rfl 1 gX9_setBog_X9_fails rfl rfl rfl (by decide +kernel) ⟨Nat.le_of_ble_eq_true rfl, Nat.le_of_ble_eq_true rfl⟩ (by decide) rfl rfl (Nat.le_of_ble_eq_true rfl) dX9_setBog_27 (fun r27_4 => ?_)
  show cr_P Γ E 6 _ 0 0 (cr_us S0 9 r27_4.2) 30 ([(0, .ref (E.2.1 9 0))]) ([.int r27_4.1]) _
  exact cr_iret X rfl rfl dX9_setBog_30
set_option maxHeartbeats 4000000 in
set_option maxRecDepth 100000 in
theorem b_X9_setBog_251 {Γ : cr_C} {E : cr_E} (X : cr_X Γ E cX9_setBog 6 RX9 wsX9_setBog rm_X9_setBog (some .int)) (S0 : cr_S) : ∀ (n : Nat) (x1 : Int32) (x2 : Int32) (x3 : Int32) (x5 : Int32) (G : cr_G), cr_P Γ E 6 (cr_F Γ E (cr_vIG S0 9)) 0 0 (cr_us S0 9 G) 251 ([(0, .ref (E.2.1 9 0)), (1, .int x1), (2, .int x2), (3, .int x3), (5, .int x5)]) ([]) (s_X9_setBog_251 n x1 x2 x3 x5 G) := by
  have hEK := X.2.2.2.2.2.2.1
  intro n
  induction n with
  | zero => intro x1 x2 x3 x5 G; exact cr_none
  | succ n ih =>
    intro x1 x2 x3 x5 G
    rw [s_X9_setBog_251]
    refine cr_iload X 4 rfl dX9_setBog_251 ?_
    refine cr_iload_n X 3 rfl dX9_setBog_253 ?_
    refine cr_icmp_le X 311 dX9_setBog_254 rfl ?_ ?_
    · refine cr_aload_n X 0 rfl dX9_setBog_311 ?_
      refine cr_get X ((cr_m0 E).at (cr_row S0 9 G 0) rfl) rfl i_X9_setBog_X9 0 (by decide) k_X9_setBog_2 rfl dX9_setBog_312 ?_
      refine cr_sipush X (128 : Int32) (by decide) dX9_setBog_315 ?_
      refine cr_iload_n X 3 rfl dX9_setBog_318 ?_
      refine cr_iadd X dX9_setBog_319 ?_
      refine cr_iload_n X 1 rfl dX9_setBog_320 ?_
      refine cr_iastG X (cr_m1 E) (fun _ _ => rfl) dX9_setBog_321 (fun G321_11 => ?_)
      refine cr_aload_n X 0 rfl dX9_setBog_322 ?_
      refine cr_get X ((cr_m0 E).at (cr_row S0 9 G321_11 0) rfl) rfl i_X9_setBog_X9 0 (by decide) k_X9_setBog_2 rfl dX9_setBog_323 ?_
      refine cr_sipush X (134 : Int32) (by decide) dX9_setBog_326 ?_
      refine cr_iload_n X 3 rfl dX9_setBog_329 ?_
      refine cr_iadd X dX9_setBog_330 ?_
      refine cr_iload_n X 2 rfl dX9_setBog_331 ?_
      refine cr_iastG X (cr_m1 E) (fun _ _ => rfl) dX9_setBog_332 (fun G332_12 => ?_)
      refine cr_aload_n X 0 rfl dX9_setBog_333 ?_
      refine cr_get X ((cr_m0 E).at (cr_row S0 9 G332_12 0) rfl) rfl i_X9_setBog_X9 0 (by decide) k_X9_setBog_2 rfl dX9_setBog_334 ?_
      refine cr_bipush X (127 : Int32) (by decide) dX9_setBog_337 ?_
      refine cr_dup2 X rfl rfl dX9_setBog_339 ?_
      refine cr_ialdk X 127 (by decide) (by decide) ((cr_m1 E).at (cr_row S0 9 G332_12 1) rfl) dX9_setBog_340 ?_
      refine cr_iconst X (1 : Int32) (by decide) dX9_setBog_341 ?_
      refine cr_iadd X dX9_setBog_342 ?_
      refine cr_iastGk X 127 (cr_m1 E) (fun _ _ => rfl) (by decide) (by decide) dX9_setBog_343 (fun G343_13 => ?_)
      refine cr_aload_n X 0 rfl dX9_setBog_344 ?_
      refine cr_get X ((cr_m0 E).at (cr_row S0 9 G343_13 0) rfl) rfl i_X9_setBog_X9 0 (by decide) k_X9_setBog_2 rfl dX9_setBog_345 ?_
      refine cr_bipush X (127 : Int32) (by decide) dX9_setBog_348 ?_
      refine cr_ialdk X 127 (by decide) (by decide) ((cr_m1 E).at (cr_row S0 9 G343_13 1) rfl) dX9_setBog_350 ?_
      exact cr_iret X rfl rfl dX9_setBog_351
    · refine cr_aload_n X 0 rfl dX9_setBog_257 ?_
      refine cr_get X ((cr_m0 E).at (cr_row S0 9 G 0) rfl) rfl i_X9_setBog_X9 0 (by decide) k_X9_setBog_2 rfl dX9_setBog_258 ?_
      refine cr_sipush X (128 : Int32) (by decide) dX9_setBog_261 ?_
      refine cr_iload X 4 rfl dX9_setBog_264 ?_
      refine cr_iadd X dX9_setBog_266 ?_
      refine cr_aload_n X 0 rfl dX9_setBog_267 ?_
      refine cr_get X ((cr_m0 E).at (cr_row S0 9 G 0) rfl) rfl i_X9_setBog_X9 0 (by decide) k_X9_setBog_2 rfl dX9_setBog_268 ?_
      refine cr_sipush X (128 : Int32) (by decide) dX9_setBog_271 ?_
      refine cr_iload X 4 rfl dX9_setBog_274 ?_
      refine cr_iadd X dX9_setBog_276 ?_
      refine cr_iconst X (1 : Int32) (by decide) dX9_setBog_277 ?_
      refine cr_isub X dX9_setBog_278 ?_
      refine cr_iald X ((cr_m1 E).at (cr_row S0 9 G 1) rfl) dX9_setBog_279 ?_
      refine cr_iastG X (cr_m1 E) (fun _ _ => rfl) dX9_setBog_280 (fun G280_14 => ?_)
      refine cr_aload_n X 0 rfl dX9_setBog_281 ?_
      refine cr_get X ((cr_m0 E).at (cr_row S0 9 G280_14 0) rfl) rfl i_X9_setBog_X9 0 (by decide) k_X9_setBog_2 rfl dX9_setBog_282 ?_
      refine cr_sipush X (134 : Int32) (by decide) dX9_setBog_285 ?_
      refine cr_iload X 4 rfl dX9_setBog_288 ?_
      refine cr_iadd X dX9_setBog_290 ?_
      refine cr_aload_n X 0 rfl dX9_setBog_291 ?_
      refine cr_get X ((cr_m0 E).at (cr_row S0 9 G280_14 0) rfl) rfl i_X9_setBog_X9 0 (by decide) k_X9_setBog_2 rfl dX9_setBog_292 ?_
      refine cr_sipush X (134 : Int32) (by decide) dX9_setBog_295 ?_
      refine cr_iload X 4 rfl dX9_setBog_298 ?_
      refine cr_iadd X dX9_setBog_300 ?_
      refine cr_iconst X (1 : Int32) (by decide) dX9_setBog_301 ?_
      refine cr_isub X dX9_setBog_302 ?_
      refine cr_iald X ((cr_m1 E).at (cr_row S0 9 G280_14 1) rfl) dX9_setBog_303 ?_
      refine cr_iastG X (cr_m1 E) (fun _ _ => rfl) dX9_setBog_304 (fun G304_15 => ?_)
      refine cr_iinc X (x5 + (-1)) (fun v305_16 => [(5, .int v305_16), (0, .ref (E.2.1 9 0)), (1, .int x1), (2, .int x2), (3, .int x3)]) 4 rfl (congrArg (fun z => x5 + z) (show Int32.ofInt (-1) = (-1 : Int32) by decide)) (fun _ => rfl) (by decide) dX9_setBog_305 (fun v305_16 => ?_)
      refine cr_goto X 251 dX9_setBog_308 rfl ?_
      refine cr_sub (lv' := [(0, .ref (E.2.1 9 0)), (1, .int x1), (2, .int x2), (3, .int x3), (5, .int v305_16)]) [1, 2, 3, 4, 0] rfl ?_
      exact ih x1 x2 x3 v305_16 G304_15
set_option maxHeartbeats 4000000 in
set_option maxRecDepth 100000 in
theorem b_X9_setBog_219 {Γ : cr_C} {E : cr_E} (X : cr_X Γ E cX9_setBog 6 RX9 wsX9_setBog rm_X9_setBog (some .int)) (S0 : cr_S) (x1 : Int32) (x2 : Int32) (x3 : Int32) (x4 : Int32) (G : cr_G) : cr_P Γ E 6 (cr_F Γ E (cr_vIG S0 9)) 0 0 (cr_us S0 9 G) 219 ([(0, .ref (E.2.1 9 0)), (1, .int x1), (2, .int x2), (3, .int x3), (4, .int x4)]) ([]) (s_X9_setBog_219 x1 x2 x3 x4 G) := by
  have hEK := X.2.2.2.2.2.2.1
  unfold s_X9_setBog_219
  refine cr_iload X 4 rfl dX9_setBog_219 ?_
  refine cr_if_eq X 238 dX9_setBog_221 rfl ?_ ?_
  · refine cr_iload_n X 2 rfl dX9_setBog_238 ?_
    refine cr_if_eq X 344 dX9_setBog_239 rfl ?_ ?_
    · refine cr_aload_n X 0 rfl dX9_setBog_344 ?_
      refine cr_get X ((cr_m0 E).at (cr_row S0 9 G 0) rfl) rfl i_X9_setBog_X9 0 (by decide) k_X9_setBog_2 rfl dX9_setBog_345 ?_
      refine cr_bipush X (127 : Int32) (by decide) dX9_setBog_348 ?_
      refine cr_ialdk X 127 (by decide) (by decide) ((cr_m1 E).at (cr_row S0 9 G 1) rfl) dX9_setBog_350 ?_
      exact cr_iret X rfl rfl dX9_setBog_351
    · refine cr_aload_n X 0 rfl dX9_setBog_242 ?_
      refine cr_get X ((cr_m0 E).at (cr_row S0 9 G 0) rfl) rfl i_X9_setBog_X9 0 (by decide) k_X9_setBog_2 rfl dX9_setBog_243 ?_
      refine cr_bipush X (127 : Int32) (by decide) dX9_setBog_246 ?_
      refine cr_ialdk X 127 (by decide) (by decide) ((cr_m1 E).at (cr_row S0 9 G 1) rfl) dX9_setBog_248 ?_
      refine cr_istoreb X (fun v249_9 => [(5, .int v249_9), (0, .ref (E.2.1 9 0)), (1, .int x1), (2, .int x2), (3, .int x3), (4, .int x4)]) (fun _ => rfl) (by decide) dX9_setBog_249 (fun v249_9 => ?_)
      refine cr_sub (lv' := [(0, .ref (E.2.1 9 0)), (1, .int x1), (2, .int x2), (3, .int x3), (5, .int v249_9)]) [1, 2, 3, 4, 0] rfl ?_
      exact b_X9_setBog_251 X S0 1200 x1 x2 x3 v249_9 G
  · refine cr_aload_n X 0 rfl dX9_setBog_224 ?_
    refine cr_get X ((cr_m0 E).at (cr_row S0 9 G 0) rfl) rfl i_X9_setBog_X9 0 (by decide) k_X9_setBog_2 rfl dX9_setBog_225 ?_
    refine cr_sipush X (134 : Int32) (by decide) dX9_setBog_228 ?_
    refine cr_iload_n X 3 rfl dX9_setBog_231 ?_
    refine cr_iadd X dX9_setBog_232 ?_
    refine cr_iload_n X 2 rfl dX9_setBog_233 ?_
    refine cr_iastG X (cr_m1 E) (fun _ _ => rfl) dX9_setBog_234 (fun G234_10 => ?_)
    refine cr_goto X 344 dX9_setBog_235 rfl ?_
    refine cr_aload_n X 0 rfl dX9_setBog_344 ?_
    refine cr_get X ((cr_m0 E).at (cr_row S0 9 G234_10 0) rfl) rfl i_X9_setBog_X9 0 (by decide) k_X9_setBog_2 rfl dX9_setBog_345 ?_
    refine cr_bipush X (127 : Int32) (by decide) dX9_setBog_348 ?_
    refine cr_ialdk X 127 (by decide) (by decide) ((cr_m1 E).at (cr_row S0 9 G234_10 1) rfl) dX9_setBog_350 ?_
    exact cr_iret X rfl rfl dX9_setBog_351
set_option maxHeartbeats 4000000 in
set_option maxRecDepth 100000 in
theorem b_X9_setBog_150 {Γ : cr_C} {E : cr_E} (X : cr_X Γ E cX9_setBog 6 RX9 wsX9_setBog rm_X9_setBog (some .int)) (S0 : cr_S) : ∀ (n : Nat) (x5 : Int32) (G : cr_G), cr_P Γ E 6 (cr_F Γ E (cr_vIG S0 9)) 0 0 (cr_us S0 9 G) 150 ([(0, .ref (E.2.1 9 0)), (5, .int x5)]) ([]) (s_X9_setBog_150 n x5 G) := by
  have hEK := X.2.2.2.2.2.2.1
  intro n
  induction n with
  | zero => intro x5 G; exact cr_none
  | succ n ih =>
    intro x5 G
    rw [s_X9_setBog_150]
    refine cr_iload X 1 rfl dX9_setBog_150 ?_
    refine cr_aload_n X 0 rfl dX9_setBog_152 ?_
    refine cr_get X ((cr_m0 E).at (cr_row S0 9 G 0) rfl) rfl i_X9_setBog_X9 0 (by decide) k_X9_setBog_2 rfl dX9_setBog_153 ?_
    refine cr_bipush X (127 : Int32) (by decide) dX9_setBog_156 ?_
    refine cr_ialdk X 127 (by decide) (by decide) ((cr_m1 E).at (cr_row S0 9 G 1) rfl) dX9_setBog_158 ?_
    refine cr_icmp_ge X 216 dX9_setBog_159 rfl ?_ ?_
    · refine cr_goto X 344 dX9_setBog_216 rfl ?_
      refine cr_aload_n X 0 rfl dX9_setBog_344 ?_
      refine cr_get X ((cr_m0 E).at (cr_row S0 9 G 0) rfl) rfl i_X9_setBog_X9 0 (by decide) k_X9_setBog_2 rfl dX9_setBog_345 ?_
      refine cr_bipush X (127 : Int32) (by decide) dX9_setBog_348 ?_
      refine cr_ialdk X 127 (by decide) (by decide) ((cr_m1 E).at (cr_row S0 9 G 1) rfl) dX9_setBog_350 ?_
      exact cr_iret X rfl rfl dX9_setBog_351
    · refine cr_aload_n X 0 rfl dX9_setBog_162 ?_
      refine cr_get X ((cr_m0 E).at (cr_row S0 9 G 0) rfl) rfl i_X9_setBog_X9 0 (by decide) k_X9_setBog_2 rfl dX9_setBog_163 ?_
      refine cr_sipush X (128 : Int32) (by decide) dX9_setBog_166 ?_
      refine cr_iload X 1 rfl dX9_setBog_169 ?_
      refine cr_iadd X dX9_setBog_171 ?_
      refine cr_aload_n X 0 rfl dX9_setBog_172 ?_
      refine cr_get X ((cr_m0 E).at (cr_row S0 9 G 0) rfl) rfl i_X9_setBog_X9 0 (by decide) k_X9_setBog_2 rfl dX9_setBog_173 ?_
      refine cr_sipush X (128 : Int32) (by decide) dX9_setBog_176 ?_
      refine cr_iload X 1 rfl dX9_setBog_179 ?_
      refine cr_iadd X dX9_setBog_181 ?_
      refine cr_iconst X (1 : Int32) (by decide) dX9_setBog_182 ?_
      refine cr_iadd X dX9_setBog_183 ?_
      refine cr_iald X ((cr_m1 E).at (cr_row S0 9 G 1) rfl) dX9_setBog_184 ?_
      refine cr_iastG X (cr_m1 E) (fun _ _ => rfl) dX9_setBog_185 (fun G185_17 => ?_)
      refine cr_aload_n X 0 rfl dX9_setBog_186 ?_
      refine cr_get X ((cr_m0 E).at (cr_row S0 9 G185_17 0) rfl) rfl i_X9_setBog_X9 0 (by decide) k_X9_setBog_2 rfl dX9_setBog_187 ?_
      refine cr_sipush X (134 : Int32) (by decide) dX9_setBog_190 ?_
      refine cr_iload X 1 rfl dX9_setBog_193 ?_
      refine cr_iadd X dX9_setBog_195 ?_
      refine cr_aload_n X 0 rfl dX9_setBog_196 ?_
      refine cr_get X ((cr_m0 E).at (cr_row S0 9 G185_17 0) rfl) rfl i_X9_setBog_X9 0 (by decide) k_X9_setBog_2 rfl dX9_setBog_197 ?_
      refine cr_sipush X (134 : Int32) (by decide) dX9_setBog_200 ?_
      refine cr_iload X 1 rfl dX9_setBog_203 ?_
      refine cr_iadd X dX9_setBog_205 ?_
      refine cr_iconst X (1 : Int32) (by decide) dX9_setBog_206 ?_
      refine cr_iadd X dX9_setBog_207 ?_
      refine cr_iald X ((cr_m1 E).at (cr_row S0 9 G185_17 1) rfl) dX9_setBog_208 ?_
      refine cr_iastG X (cr_m1 E) (fun _ _ => rfl) dX9_setBog_209 (fun G209_18 => ?_)
      refine cr_iinc X (x5 + 1) (fun v210_19 => [(5, .int v210_19), (0, .ref (E.2.1 9 0))]) 1 rfl rfl (fun _ => rfl) (by decide) dX9_setBog_210 (fun v210_19 => ?_)
      refine cr_goto X 150 dX9_setBog_213 rfl ?_
      refine cr_sub (lv' := [(0, .ref (E.2.1 9 0)), (5, .int v210_19)]) [1, 0] rfl ?_
      exact ih v210_19 G209_18
set_option maxHeartbeats 4000000 in
set_option maxRecDepth 100000 in
theorem b_X9_setBog_123 {Γ : cr_C} {E : cr_E} (X : cr_X Γ E cX9_setBog 6 RX9 wsX9_setBog rm_X9_setBog (some .int)) (S0 : cr_S) (x1 : Int32) (x2 : Int32) (x3 : Int32) (x4 : Int32) (G : cr_G) : cr_P Γ E 6 (cr_F Γ E (cr_vIG S0 9)) 0 0 (cr_us S0 9 G) 123 ([(0, .ref (E.2.1 9 0)), (1, .int x1), (2, .int x2), (3, .int x3), (4, .int x4)]) ([]) (s_X9_setBog_123 x1 x2 x3 x4 G) := by
  have hEK := X.2.2.2.2.2.2.1
  unfold s_X9_setBog_123
  refine cr_aload_n X 0 rfl dX9_setBog_123 ?_
  refine cr_callV X (As := []) (rest := []) (c_X9_save Γ.2.1 E hEK S0 G) ((cr_m0 E).at (cr_row S0 9 G 0) rfl) rfl 0 gX9_setBog_X9_save rfl rfl rfl (by decide +kernel) ⟨Nat.le_of_ble_eq_true rfl, Nat.le_of_ble_eq_true rfl⟩ (by decide) rfl rfl (Nat.le_of_ble_eq_true rfl) dX9_setBog_124 (fun r124_7 => ?_)
  show cr_P Γ E 6 _ 0 0 (cr_us S0 9 r124_7) 127 ([(0, .ref (E.2.1 9 0)), (1, .int x1), (2, .int x2), (3, .int x3), (4, .int x4)]) ([]) _
  refine cr_iload X 4 rfl dX9_setBog_127 ?_
  refine cr_if_eq X 219 dX9_setBog_129 rfl ?_ ?_
  · refine cr_sub (lv' := [(0, .ref (E.2.1 9 0)), (1, .int x1), (2, .int x2), (3, .int x3), (4, .int x4)]) [0, 1, 2, 3, 4] rfl ?_
    exact b_X9_setBog_219 X S0 x1 x2 x3 x4 r124_7
  · refine cr_iload_n X 2 rfl dX9_setBog_132 ?_
    refine cr_if_ne X 219 dX9_setBog_133 rfl ?_ ?_
    · refine cr_sub (lv' := [(0, .ref (E.2.1 9 0)), (1, .int x1), (2, .int x2), (3, .int x3), (4, .int x4)]) [0, 1, 2, 3, 4] rfl ?_
      exact b_X9_setBog_219 X S0 x1 x2 x3 x4 r124_7
    · refine cr_aload_n X 0 rfl dX9_setBog_136 ?_
      refine cr_get X ((cr_m0 E).at (cr_row S0 9 r124_7 0) rfl) rfl i_X9_setBog_X9 0 (by decide) k_X9_setBog_2 rfl dX9_setBog_137 ?_
      refine cr_bipush X (127 : Int32) (by decide) dX9_setBog_140 ?_
      refine cr_dup2 X rfl rfl dX9_setBog_142 ?_
      refine cr_ialdk X 127 (by decide) (by decide) ((cr_m1 E).at (cr_row S0 9 r124_7 1) rfl) dX9_setBog_143 ?_
      refine cr_iconst X (1 : Int32) (by decide) dX9_setBog_144 ?_
      refine cr_isub X dX9_setBog_145 ?_
      refine cr_iastGk X 127 (cr_m1 E) (fun _ _ => rfl) (by decide) (by decide) dX9_setBog_146 (fun G146_8 => ?_)
      refine cr_iload_n X 3 rfl dX9_setBog_147 ?_
      refine cr_istore X ([(5, .int x3), (0, .ref (E.2.1 9 0)), (1, .int x1), (2, .int x2), (3, .int x3), (4, .int x4)]) rfl (by decide) dX9_setBog_148 ?_
      refine cr_sub (lv' := [(0, .ref (E.2.1 9 0)), (5, .int x3)]) [1, 0] rfl ?_
      exact b_X9_setBog_150 X S0 1200 x3 G146_8
set_option maxHeartbeats 4000000 in
set_option maxRecDepth 100000 in
theorem b_X9_setBog_94 {Γ : cr_C} {E : cr_E} (X : cr_X Γ E cX9_setBog 6 RX9 wsX9_setBog rm_X9_setBog (some .int)) (S0 : cr_S) (x1 : Int32) (x2 : Int32) (x3 : Int32) (y0 : Int32) (G : cr_G) : cr_P Γ E 6 (cr_F Γ E (cr_vIG S0 9)) 0 0 (cr_us S0 9 G) 94 ([(0, .ref (E.2.1 9 0)), (1, .int x1), (2, .int x2), (3, .int x3)]) ([.int y0]) (s_X9_setBog_94 x1 x2 x3 y0 G) := by
  have hEK := X.2.2.2.2.2.2.1
  unfold s_X9_setBog_94
  refine cr_istore X ([(4, .int y0), (0, .ref (E.2.1 9 0)), (1, .int x1), (2, .int x2), (3, .int x3)]) rfl (by decide) dX9_setBog_94 ?_
  refine cr_iload X 0 rfl dX9_setBog_96 ?_
  refine cr_if_ne X 123 dX9_setBog_98 rfl ?_ ?_
  · refine cr_sub (lv' := [(0, .ref (E.2.1 9 0)), (1, .int x1), (2, .int x2), (3, .int x3), (4, .int y0)]) [1, 2, 3, 4, 0] rfl ?_
    exact b_X9_setBog_123 X S0 x1 x2 x3 y0 G
  · refine cr_aload_n X 1 rfl dX9_setBog_101 ?_
    refine cr_get X ((cr_m0 E).at (cr_row S0 9 G 0) rfl) rfl i_X9_setBog_X9 0 (by decide) k_X9_setBog_2 rfl dX9_setBog_102 ?_
    refine cr_bipush X (127 : Int32) (by decide) dX9_setBog_105 ?_
    refine cr_ialdk X 127 (by decide) (by decide) ((cr_m1 E).at (cr_row S0 9 G 1) rfl) dX9_setBog_107 ?_
    refine cr_bipush X (6 : Int32) (by decide) dX9_setBog_108 ?_
    refine cr_icmp_ne X 123 dX9_setBog_110 rfl ?_ ?_
    · refine cr_sub (lv' := [(0, .ref (E.2.1 9 0)), (1, .int x1), (2, .int x2), (3, .int x3), (4, .int y0)]) [1, 2, 3, 4, 0] rfl ?_
      exact b_X9_setBog_123 X S0 x1 x2 x3 y0 G
    · refine cr_iload_n X 3 rfl dX9_setBog_113 ?_
      refine cr_if_eq X 123 dX9_setBog_114 rfl ?_ ?_
      · refine cr_sub (lv' := [(0, .ref (E.2.1 9 0)), (1, .int x1), (2, .int x2), (3, .int x3), (4, .int y0)]) [1, 2, 3, 4, 0] rfl ?_
        exact b_X9_setBog_123 X S0 x1 x2 x3 y0 G
      · refine cr_aload_n X 1 rfl dX9_setBog_117 ?_
        refine cr_iconst X (2 : Int32) (by decide) dX9_setBog_118 ?_
        refine cr_callV X (As := [.int ((2 : Int32))]) (rest := []) (c_X9_fails Γ.2.1 E hEK S0 G ((2 : Int32))) ((cr_m0 E).at (cr_row S0 9 G 0) rfl) rfl 1 gX9_setBog_X9_fails rfl rfl rfl (by decide +kernel) ⟨Nat.le_of_ble_eq_true rfl, Nat.le_of_ble_eq_true rfl⟩ (by decide) rfl rfl (Nat.le_of_ble_eq_true rfl) dX9_setBog_119 (fun r119_6 => ?_)
        show cr_P Γ E 6 _ 0 0 (cr_us S0 9 r119_6.2) 122 ([(4, .int y0), (0, .ref (E.2.1 9 0)), (1, .int x1), (2, .int x2), (3, .int x3)]) ([.int r119_6.1]) _
        exact cr_iret X rfl rfl dX9_setBog_122
set_option maxHeartbeats 4000000 in
set_option maxRecDepth 100000 in
theorem b_X9_setBog_64 {Γ : cr_C} {E : cr_E} (X : cr_X Γ E cX9_setBog 6 RX9 wsX9_setBog rm_X9_setBog (some .int)) (S0 : cr_S) (x1 : Int32) (x2 : Int32) (x3 : Int32) (G : cr_G) : cr_P Γ E 6 (cr_F Γ E (cr_vIG S0 9)) 0 0 (cr_us S0 9 G) 64 ([(0, .ref (E.2.1 9 0)), (1, .int x1), (2, .int x2), (3, .int x3)]) ([]) (s_X9_setBog_64 x1 x2 x3 G) := by
  have hEK := X.2.2.2.2.2.2.1
  unfold s_X9_setBog_64
  refine cr_iload_n X 3 rfl dX9_setBog_64 ?_
  refine cr_aload_n X 0 rfl dX9_setBog_65 ?_
  refine cr_get X ((cr_m0 E).at (cr_row S0 9 G 0) rfl) rfl i_X9_setBog_X9 0 (by decide) k_X9_setBog_2 rfl dX9_setBog_66 ?_
  refine cr_bipush X (127 : Int32) (by decide) dX9_setBog_69 ?_
  refine cr_ialdk X 127 (by decide) (by decide) ((cr_m1 E).at (cr_row S0 9 G 1) rfl) dX9_setBog_71 ?_
  refine cr_icmp_ge X 93 dX9_setBog_72 rfl ?_ ?_
  · refine cr_iconst X (0 : Int32) (by decide) dX9_setBog_93 ?_
    refine cr_sub (lv' := [(0, .ref (E.2.1 9 0)), (1, .int x1), (2, .int x2), (3, .int x3)]) [0, 1, 2, 3] rfl ?_
    exact b_X9_setBog_94 X S0 x1 x2 x3 ((0 : Int32)) G
  · refine cr_aload_n X 0 rfl dX9_setBog_75 ?_
    refine cr_get X ((cr_m0 E).at (cr_row S0 9 G 0) rfl) rfl i_X9_setBog_X9 0 (by decide) k_X9_setBog_2 rfl dX9_setBog_76 ?_
    refine cr_sipush X (128 : Int32) (by decide) dX9_setBog_79 ?_
    refine cr_iload_n X 3 rfl dX9_setBog_82 ?_
    refine cr_iadd X dX9_setBog_83 ?_
    refine cr_iald X ((cr_m1 E).at (cr_row S0 9 G 1) rfl) dX9_setBog_84 ?_
    refine cr_iload_n X 1 rfl dX9_setBog_85 ?_
    refine cr_icmp_ne X 93 dX9_setBog_86 rfl ?_ ?_
    · refine cr_iconst X (0 : Int32) (by decide) dX9_setBog_93 ?_
      refine cr_sub (lv' := [(0, .ref (E.2.1 9 0)), (1, .int x1), (2, .int x2), (3, .int x3)]) [0, 1, 2, 3] rfl ?_
      exact b_X9_setBog_94 X S0 x1 x2 x3 ((0 : Int32)) G
    · refine cr_iconst X (1 : Int32) (by decide) dX9_setBog_89 ?_
      refine cr_goto X 94 dX9_setBog_90 rfl ?_
      refine cr_sub (lv' := [(0, .ref (E.2.1 9 0)), (1, .int x1), (2, .int x2), (3, .int x3)]) [0, 1, 2, 3] rfl ?_
      exact b_X9_setBog_94 X S0 x1 x2 x3 ((1 : Int32)) G
set_option maxHeartbeats 4000000 in
set_option maxRecDepth 100000 in
theorem b_X9_setBog_33 {Γ : cr_C} {E : cr_E} (X : cr_X Γ E cX9_setBog 6 RX9 wsX9_setBog rm_X9_setBog (some .int)) (S0 : cr_S) : ∀ (n : Nat) (x1 : Int32) (x2 : Int32) (x3 : Int32) (G : cr_G), cr_P Γ E 6 (cr_F Γ E (cr_vIG S0 9)) 0 0 (cr_us S0 9 G) 33 ([(0, .ref (E.2.1 9 0)), (1, .int x1), (2, .int x2), (3, .int x3)]) ([]) (s_X9_setBog_33 n x1 x2 x3 G) := by
  have hEK := X.2.2.2.2.2.2.1
  intro n
  induction n with
  | zero => intro x1 x2 x3 G; exact cr_none
  | succ n ih =>
    intro x1 x2 x3 G
    rw [s_X9_setBog_33]
    refine cr_iload_n X 3 rfl dX9_setBog_33 ?_
    refine cr_aload_n X 0 rfl dX9_setBog_34 ?_
    refine cr_get X ((cr_m0 E).at (cr_row S0 9 G 0) rfl) rfl i_X9_setBog_X9 0 (by decide) k_X9_setBog_2 rfl dX9_setBog_35 ?_
    refine cr_bipush X (127 : Int32) (by decide) dX9_setBog_38 ?_
    refine cr_ialdk X 127 (by decide) (by decide) ((cr_m1 E).at (cr_row S0 9 G 1) rfl) dX9_setBog_40 ?_
    refine cr_icmp_ge X 64 dX9_setBog_41 rfl ?_ ?_
    · refine cr_sub (lv' := [(0, .ref (E.2.1 9 0)), (1, .int x1), (2, .int x2), (3, .int x3)]) [0, 1, 2, 3] rfl ?_
      exact b_X9_setBog_64 X S0 x1 x2 x3 G
    · refine cr_aload_n X 0 rfl dX9_setBog_44 ?_
      refine cr_get X ((cr_m0 E).at (cr_row S0 9 G 0) rfl) rfl i_X9_setBog_X9 0 (by decide) k_X9_setBog_2 rfl dX9_setBog_45 ?_
      refine cr_sipush X (128 : Int32) (by decide) dX9_setBog_48 ?_
      refine cr_iload_n X 3 rfl dX9_setBog_51 ?_
      refine cr_iadd X dX9_setBog_52 ?_
      refine cr_iald X ((cr_m1 E).at (cr_row S0 9 G 1) rfl) dX9_setBog_53 ?_
      refine cr_iload_n X 1 rfl dX9_setBog_54 ?_
      refine cr_icmp_ge X 64 dX9_setBog_55 rfl ?_ ?_
      · refine cr_sub (lv' := [(0, .ref (E.2.1 9 0)), (1, .int x1), (2, .int x2), (3, .int x3)]) [0, 1, 2, 3] rfl ?_
        exact b_X9_setBog_64 X S0 x1 x2 x3 G
      · refine cr_iinc X (x3 + 1) (fun v58_5 => [(3, .int v58_5), (0, .ref (E.2.1 9 0)), (1, .int x1), (2, .int x2)]) 3 rfl rfl (fun _ => rfl) (by decide) dX9_setBog_58 (fun v58_5 => ?_)
        refine cr_goto X 33 dX9_setBog_61 rfl ?_
        refine cr_sub (lv' := [(0, .ref (E.2.1 9 0)), (1, .int x1), (2, .int x2), (3, .int v58_5)]) [1, 2, 3, 0] rfl ?_
        exact ih x1 x2 v58_5 G
set_option maxHeartbeats 4000000 in
set_option maxRecDepth 100000 in
theorem c_X9_setBog (l : Launch) (E : cr_E) (hEK : cr_EK E) (S0 : cr_S) (G : cr_G) (p1 : Int32) (p2 : Int32) : cr_M l E yX9_setBog wsX9_setBog rm_X9_setBog [.ref (E.2.1 9 0), .int p1, .int p2] (cr_us S0 9 G) (cr_vIG S0 9) (s_X9_setBog p1 p2 G) := by
  refine cr_enter (cc := cX9_setBog) (nL := 6) (rt := (some .int)) hEK (by decide) rfl (Nat.le_of_ble_eq_true rfl) (fun Γ hΓ X => ?_)
  subst hΓ
  have X : cr_X Γ E cX9_setBog 6 RX9 wsX9_setBog rm_X9_setBog (some .int) := X
  unfold s_X9_setBog
  show cr_P Γ E 6 _ 0 0 (cr_us S0 9 G) 0 ([(0, .ref (E.2.1 9 0)), (1, .int p1), (2, .int p2)]) [] _
  refine cr_aload_n X 0 rfl dX9_setBog_0 ?_
  refine cr_iconst X (0 : Int32) (by decide) dX9_setBog_1 ?_
  refine cr_putG X (cr_m0 E) 7 rfl rfl rfl i_X9_setBog_X9 tyX9 tyX9_ok nmX9 (by decide) k_X9_setBog_1 rfl rfl rfl (Nat.le_of_ble_eq_true rfl) dX9_setBog_2 (fun G2_1 => ?_)
  refine cr_iload_n X 1 rfl dX9_setBog_5 ?_
  refine cr_iconst X (1 : Int32) (by decide) dX9_setBog_6 ?_
  refine cr_bipush X (99 : Int32) (by decide) dX9_setBog_7 ?_
  refine cr_callS X (As := [.int p1, .int ((1 : Int32)), .int ((99 : Int32))]) (rest := []) (c_X9_within Γ.2.1 E hEK ((cr_us S0 9 G2_1)) p1 ((1 : Int32)) ((99 : Int32))) 3 gX9_setBog_X9_within rfl rfl rfl (by decide +kernel) ⟨Nat.le_of_ble_eq_true rfl, Nat.le_of_ble_eq_true rfl⟩ (by decide) rfl rfl (Nat.le_of_ble_eq_true rfl) dX9_setBog_9 (fun r9_2 => ?_)
  show cr_P Γ E 6 _ 0 0 (cr_us S0 9 G2_1) 12 ([(0, .ref (E.2.1 9 0)), (1, .int p1), (2, .int p2)]) ([.int (cr_b r9_2)]) _
  refine cr_ifb_eq X 25 dX9_setBog_12 rfl ?_ ?_
  · refine cr_sub (lv' := [(0, .ref (E.2.1 9 0))]) [0] rfl ?_
    exact b_X9_setBog_25 X S0 G2_1
  · refine cr_iload_n X 2 rfl dX9_setBog_15 ?_
    refine cr_iconst X (0 : Int32) (by decide) dX9_setBog_16 ?_
    refine cr_bipush X (50 : Int32) (by decide) dX9_setBog_17 ?_
    refine cr_callS X (As := [.int p2, .int ((0 : Int32)), .int ((50 : Int32))]) (rest := []) (c_X9_within Γ.2.1 E hEK ((cr_us S0 9 G2_1)) p2 ((0 : Int32)) ((50 : Int32))) 3 gX9_setBog_X9_within rfl rfl rfl (by decide +kernel) ⟨Nat.le_of_ble_eq_true rfl, Nat.le_of_ble_eq_true rfl⟩ (by decide) rfl rfl (Nat.le_of_ble_eq_true rfl) dX9_setBog_19 (fun r19_3 => ?_)
    show cr_P Γ E 6 _ 0 0 (cr_us S0 9 G2_1) 22 ([(0, .ref (E.2.1 9 0)), (1, .int p1), (2, .int p2)]) ([.int (cr_b r19_3)]) _
    refine cr_ifb_ne X 31 dX9_setBog_22 rfl ?_ ?_
    · refine cr_iconst X (0 : Int32) (by decide) dX9_setBog_31 ?_
      refine cr_istore_n X ([(3, .int ((0 : Int32))), (0, .ref (E.2.1 9 0)), (1, .int p1), (2, .int p2)]) rfl (by decide) dX9_setBog_32 ?_
      refine cr_sub (lv' := [(0, .ref (E.2.1 9 0)), (1, .int p1), (2, .int p2), (3, .int ((0 : Int32)))]) [1, 2, 3, 0] rfl ?_
      exact b_X9_setBog_33 X S0 1200 p1 p2 ((0 : Int32)) G2_1
    · refine cr_sub (lv' := [(0, .ref (E.2.1 9 0))]) [0] rfl ?_
      exact b_X9_setBog_25 X S0 G2_1
theorem c_X9_setBog_S (l : Launch) (E : cr_E) (hEK : cr_EK E) (S : cr_S) (p1 : Int32) (p2 : Int32) : cr_M l E yX9_setBog wsX9_setBog rm_X9_setBog [.ref (E.2.1 9 0), .int p1, .int p2] S (cr_vIG S 9) (s_X9_setBog  p1 p2 (S.1 9)) := by
  have h := c_X9_setBog l E hEK S (S.1 9) p1 p2
  rw [cr_us_self] at h
  exact h
theorem k_X9_setFault_1 : (Cond.fieldLink RX9 28 "CraneCampaignModel" "thrown" "I") ∈ wsX9_setFault := List.mem_of_getElem? (i := 1) (by rfl)
theorem k_X9_setFault_2 : (Cond.fieldLink RX9 7 "CraneCampaignModel" "z" "[I") ∈ wsX9_setFault := List.mem_of_getElem? (i := 2) (by rfl)
theorem i_X9_setFault_X9 : ∀ w ∈ wsX90, w ∈ wsX9_setFault := by decide +kernel
abbrev rm_X9_setFault : Room := { frames := 2, cells := 0, slots := 0, locals := 43 }
set_option maxHeartbeats 4000000 in
set_option maxRecDepth 100000 in
theorem c_X9_setFault (l : Launch) (E : cr_E) (hEK : cr_EK E) (S0 : cr_S) (G : cr_G) (p1 : Int32) (p2 : Int32) : cr_M l E yX9_setFault wsX9_setFault rm_X9_setFault [.ref (E.2.1 9 0), .int p1, .int p2] (cr_us S0 9 G) (cr_vIG S0 9) (s_X9_setFault p1 p2 G) := by
  refine cr_enter (cc := cX9_setFault) (nL := 4) (rt := (some .int)) hEK (by decide) rfl (Nat.le_of_ble_eq_true rfl) (fun Γ hΓ X => ?_)
  subst hΓ
  have X : cr_X Γ E cX9_setFault 4 RX9 wsX9_setFault rm_X9_setFault (some .int) := X
  unfold s_X9_setFault
  show cr_P Γ E 4 _ 0 0 (cr_us S0 9 G) 0 ([(0, .ref (E.2.1 9 0)), (1, .int p1), (2, .int p2)]) [] _
  refine cr_aload_n X 0 rfl dX9_setFault_0 ?_
  refine cr_iconst X (0 : Int32) (by decide) dX9_setFault_1 ?_
  refine cr_putG X (cr_m0 E) 7 rfl rfl rfl i_X9_setFault_X9 tyX9 tyX9_ok nmX9 (by decide) k_X9_setFault_1 rfl rfl rfl (Nat.le_of_ble_eq_true rfl) dX9_setFault_2 (fun G2_1 => ?_)
  refine cr_aload_n X 0 rfl dX9_setFault_5 ?_
  refine cr_iload_n X 1 rfl dX9_setFault_6 ?_
  refine cr_callV X (As := [.int p1]) (rest := []) (c_X9_isTurbine Γ.2.1 E hEK S0 G2_1 p1) ((cr_m0 E).at (cr_row S0 9 G2_1 0) rfl) rfl 1 gX9_setFault_X9_isTurbine rfl rfl rfl (by decide +kernel) ⟨Nat.le_of_ble_eq_true rfl, Nat.le_of_ble_eq_true rfl⟩ (by decide) rfl rfl (Nat.le_of_ble_eq_true rfl) dX9_setFault_7 (fun r7_2 => ?_)
  show cr_P Γ E 4 _ 0 0 (cr_us S0 9 G2_1) 10 ([(0, .ref (E.2.1 9 0)), (1, .int p1), (2, .int p2)]) ([.int (cr_b r7_2)]) _
  refine cr_ifb_ne X 19 dX9_setFault_10 rfl ?_ ?_
  · refine cr_iload_n X 2 rfl dX9_setFault_19 ?_
    refine cr_iconst X (0 : Int32) (by decide) dX9_setFault_20 ?_
    refine cr_iconst X (4 : Int32) (by decide) dX9_setFault_21 ?_
    refine cr_callS X (As := [.int p2, .int ((0 : Int32)), .int ((4 : Int32))]) (rest := []) (c_X9_within Γ.2.1 E hEK ((cr_us S0 9 G2_1)) p2 ((0 : Int32)) ((4 : Int32))) 3 gX9_setFault_X9_within rfl rfl rfl (by decide +kernel) ⟨Nat.le_of_ble_eq_true rfl, Nat.le_of_ble_eq_true rfl⟩ (by decide) rfl rfl (Nat.le_of_ble_eq_true rfl) dX9_setFault_22 (fun r22_3 => ?_)
    show cr_P Γ E 4 _ 0 0 (cr_us S0 9 G2_1) 25 ([(0, .ref (E.2.1 9 0)), (1, .int p1), (2, .int p2)]) ([.int (cr_b r22_3)]) _
    refine cr_ifb_ne X 34 dX9_setFault_25 rfl ?_ ?_
    · refine cr_aload_n X 0 rfl dX9_setFault_34 ?_
      refine cr_callV X (As := []) (rest := []) (c_X9_save Γ.2.1 E hEK S0 G2_1) ((cr_m0 E).at (cr_row S0 9 G2_1 0) rfl) rfl 0 gX9_setFault_X9_save rfl rfl rfl (by decide +kernel) ⟨Nat.le_of_ble_eq_true rfl, Nat.le_of_ble_eq_true rfl⟩ (by decide) rfl rfl (Nat.le_of_ble_eq_true rfl) dX9_setFault_35 (fun r35_4 => ?_)
      show cr_P Γ E 4 _ 0 0 (cr_us S0 9 r35_4) 38 ([(0, .ref (E.2.1 9 0)), (1, .int p1), (2, .int p2)]) ([]) _
      refine cr_aload_n X 0 rfl dX9_setFault_38 ?_
      refine cr_get X ((cr_m0 E).at (cr_row S0 9 r35_4 0) rfl) rfl i_X9_setFault_X9 0 (by decide) k_X9_setFault_2 rfl dX9_setFault_39 ?_
      refine cr_bipush X (30 : Int32) (by decide) dX9_setFault_42 ?_
      refine cr_iload_n X 1 rfl dX9_setFault_44 ?_
      refine cr_iadd X dX9_setFault_45 ?_
      refine cr_iald X ((cr_m1 E).at (cr_row S0 9 r35_4 1) rfl) dX9_setFault_46 ?_
      refine cr_istore_nb X (fun v47_5 => [(3, .int v47_5), (0, .ref (E.2.1 9 0)), (1, .int p1), (2, .int p2)]) (fun _ => rfl) (by decide) dX9_setFault_47 (fun v47_5 => ?_)
      refine cr_aload_n X 1 rfl dX9_setFault_48 ?_
      refine cr_get X ((cr_m0 E).at (cr_row S0 9 r35_4 0) rfl) rfl i_X9_setFault_X9 0 (by decide) k_X9_setFault_2 rfl dX9_setFault_49 ?_
      refine cr_bipush X (30 : Int32) (by decide) dX9_setFault_52 ?_
      refine cr_iload_n X 2 rfl dX9_setFault_54 ?_
      refine cr_iadd X dX9_setFault_55 ?_
      refine cr_iload_n X 3 rfl dX9_setFault_56 ?_
      refine cr_iastG X (cr_m1 E) (fun _ _ => rfl) dX9_setFault_57 (fun G57_6 => ?_)
      refine cr_aload_n X 1 rfl dX9_setFault_58 ?_
      refine cr_get X ((cr_m0 E).at (cr_row S0 9 G57_6 0) rfl) rfl i_X9_setFault_X9 0 (by decide) k_X9_setFault_2 rfl dX9_setFault_59 ?_
      refine cr_bipush X (40 : Int32) (by decide) dX9_setFault_62 ?_
      refine cr_iload_n X 2 rfl dX9_setFault_64 ?_
      refine cr_iadd X dX9_setFault_65 ?_
      refine cr_iconst X (0 : Int32) (by decide) dX9_setFault_66 ?_
      refine cr_iastG X (cr_m1 E) (fun _ _ => rfl) dX9_setFault_67 (fun G67_7 => ?_)
      refine cr_iload_n X 0 rfl dX9_setFault_68 ?_
      exact cr_iret X rfl rfl dX9_setFault_69
    · refine cr_aload_n X 0 rfl dX9_setFault_28 ?_
      refine cr_iconst X (2 : Int32) (by decide) dX9_setFault_29 ?_
      refine cr_callV X (As := [.int ((2 : Int32))]) (rest := []) (c_X9_fails Γ.2.1 E hEK S0 G2_1 ((2 : Int32))) ((cr_m0 E).at (cr_row S0 9 G2_1 0) rfl) rfl 1 gX9_setFault_X9_fails rfl rfl rfl (by decide +kernel) ⟨Nat.le_of_ble_eq_true rfl, Nat.le_of_ble_eq_true rfl⟩ (by decide) rfl rfl (Nat.le_of_ble_eq_true rfl) dX9_setFault_30 (fun r30_8 => ?_)
      show cr_P Γ E 4 _ 0 0 (cr_us S0 9 r30_8.2) 33 ([(0, .ref (E.2.1 9 0)), (1, .int p1), (2, .int p2)]) ([.int r30_8.1]) _
      exact cr_iret X rfl rfl dX9_setFault_33
  · refine cr_aload_n X 0 rfl dX9_setFault_13 ?_
    refine cr_iconst X (1 : Int32) (by decide) dX9_setFault_14 ?_
    refine cr_callV X (As := [.int ((1 : Int32))]) (rest := []) (c_X9_fails Γ.2.1 E hEK S0 G2_1 ((1 : Int32))) ((cr_m0 E).at (cr_row S0 9 G2_1 0) rfl) rfl 1 gX9_setFault_X9_fails rfl rfl rfl (by decide +kernel) ⟨Nat.le_of_ble_eq_true rfl, Nat.le_of_ble_eq_true rfl⟩ (by decide) rfl rfl (Nat.le_of_ble_eq_true rfl) dX9_setFault_15 (fun r15_9 => ?_)
    show cr_P Γ E 4 _ 0 0 (cr_us S0 9 r15_9.2) 18 ([(0, .ref (E.2.1 9 0)), (1, .int p1), (2, .int p2)]) ([.int r15_9.1]) _
    exact cr_iret X rfl rfl dX9_setFault_18
theorem c_X9_setFault_S (l : Launch) (E : cr_E) (hEK : cr_EK E) (S : cr_S) (p1 : Int32) (p2 : Int32) : cr_M l E yX9_setFault wsX9_setFault rm_X9_setFault [.ref (E.2.1 9 0), .int p1, .int p2] S (cr_vIG S 9) (s_X9_setFault  p1 p2 (S.1 9)) := by
  have h := c_X9_setFault l E hEK S (S.1 9) p1 p2
  rw [cr_us_self] at h
  exact h
theorem k_X9_setting_1 : (Cond.fieldLink RX9 28 "CraneCampaignModel" "thrown" "I") ∈ wsX9_setting := List.mem_of_getElem? (i := 1) (by rfl)
theorem k_X9_setting_2 : (Cond.fieldLink RX9 7 "CraneCampaignModel" "z" "[I") ∈ wsX9_setting := List.mem_of_getElem? (i := 2) (by rfl)
theorem i_X9_setting_X9 : ∀ w ∈ wsX90, w ∈ wsX9_setting := by decide +kernel
abbrev rm_X9_setting : Room := { frames := 1, cells := 0, slots := 0, locals := 22 }
set_option maxHeartbeats 4000000 in
set_option maxRecDepth 100000 in
theorem c_X9_setting (l : Launch) (E : cr_E) (hEK : cr_EK E) (S0 : cr_S) (G : cr_G) (p1 : Int32) : cr_M l E yX9_setting wsX9_setting rm_X9_setting [.ref (E.2.1 9 0), .int p1] (cr_us S0 9 G) (cr_vIG S0 9) (s_X9_setting p1 G) := by
  refine cr_enter (cc := cX9_setting) (nL := 2) (rt := (some .int)) hEK (by decide) rfl (Nat.le_of_ble_eq_true rfl) (fun Γ hΓ X => ?_)
  subst hΓ
  have X : cr_X Γ E cX9_setting 2 RX9 wsX9_setting rm_X9_setting (some .int) := X
  unfold s_X9_setting
  show cr_P Γ E 2 _ 0 0 (cr_us S0 9 G) 0 ([(0, .ref (E.2.1 9 0)), (1, .int p1)]) [] _
  refine cr_aload_n X 0 rfl dX9_setting_0 ?_
  refine cr_iconst X (0 : Int32) (by decide) dX9_setting_1 ?_
  refine cr_putG X (cr_m0 E) 7 rfl rfl rfl i_X9_setting_X9 tyX9 tyX9_ok nmX9 (by decide) k_X9_setting_1 rfl rfl rfl (Nat.le_of_ble_eq_true rfl) dX9_setting_2 (fun G2_1 => ?_)
  refine cr_iload_n X 1 rfl dX9_setting_5 ?_
  refine cr_iconst X (0 : Int32) (by decide) dX9_setting_6 ?_
  refine cr_bipush X (6 : Int32) (by decide) dX9_setting_7 ?_
  refine cr_callS X (As := [.int p1, .int ((0 : Int32)), .int ((6 : Int32))]) (rest := []) (c_X9_within Γ.2.1 E hEK ((cr_us S0 9 G2_1)) p1 ((0 : Int32)) ((6 : Int32))) 3 gX9_setting_X9_within rfl rfl rfl (by decide +kernel) ⟨Nat.le_of_ble_eq_true rfl, Nat.le_of_ble_eq_true rfl⟩ (by decide) rfl rfl (Nat.le_of_ble_eq_true rfl) dX9_setting_9 (fun r9_2 => ?_)
  show cr_P Γ E 2 _ 0 0 (cr_us S0 9 G2_1) 12 ([(0, .ref (E.2.1 9 0)), (1, .int p1)]) ([.int (cr_b r9_2)]) _
  refine cr_ifb_eq X 27 dX9_setting_12 rfl ?_ ?_
  · refine cr_aload_n X 0 rfl dX9_setting_27 ?_
    refine cr_iconst X (1 : Int32) (by decide) dX9_setting_28 ?_
    refine cr_callV X (As := [.int ((1 : Int32))]) (rest := []) (c_X9_fails Γ.2.1 E hEK S0 G2_1 ((1 : Int32))) ((cr_m0 E).at (cr_row S0 9 G2_1 0) rfl) rfl 1 gX9_setting_X9_fails rfl rfl rfl (by decide +kernel) ⟨Nat.le_of_ble_eq_true rfl, Nat.le_of_ble_eq_true rfl⟩ (by decide) rfl rfl (Nat.le_of_ble_eq_true rfl) dX9_setting_29 (fun r29_3 => ?_)
    show cr_P Γ E 2 _ 0 0 (cr_us S0 9 r29_3.2) 32 ([(0, .ref (E.2.1 9 0)), (1, .int p1)]) ([.int r29_3.1]) _
    exact cr_iret X rfl rfl dX9_setting_32
  · refine cr_aload_n X 0 rfl dX9_setting_15 ?_
    refine cr_get X ((cr_m0 E).at (cr_row S0 9 G2_1 0) rfl) rfl i_X9_setting_X9 0 (by decide) k_X9_setting_2 rfl dX9_setting_16 ?_
    refine cr_bipush X (71 : Int32) (by decide) dX9_setting_19 ?_
    refine cr_iload_n X 1 rfl dX9_setting_21 ?_
    refine cr_iadd X dX9_setting_22 ?_
    refine cr_iald X ((cr_m1 E).at (cr_row S0 9 G2_1 1) rfl) dX9_setting_23 ?_
    refine cr_goto X 32 dX9_setting_24 rfl ?_
    exact cr_iret X rfl rfl dX9_setting_32
theorem c_X9_setting_S (l : Launch) (E : cr_E) (hEK : cr_EK E) (S : cr_S) (p1 : Int32) : cr_M l E yX9_setting wsX9_setting rm_X9_setting [.ref (E.2.1 9 0), .int p1] S (cr_vIG S 9) (s_X9_setting  p1 (S.1 9)) := by
  have h := c_X9_setting l E hEK S (S.1 9) p1
  rw [cr_us_self] at h
  exact h
theorem k_X9_thrown_1 : (Cond.fieldLink RX9 28 "CraneCampaignModel" "thrown" "I") ∈ wsX9_thrown := List.mem_of_getElem? (i := 1) (by rfl)
theorem i_X9_thrown_X9 : ∀ w ∈ wsX90, w ∈ wsX9_thrown := by decide +kernel
abbrev rm_X9_thrown : Room := { frames := 0, cells := 0, slots := 0, locals := 0 }
set_option maxHeartbeats 4000000 in
set_option maxRecDepth 100000 in
theorem c_X9_thrown (l : Launch) (E : cr_E) (hEK : cr_EK E) (S0 : cr_S) (G : cr_G) : cr_M l E yX9_thrown wsX9_thrown rm_X9_thrown [.ref (E.2.1 9 0)] (cr_us S0 9 G) (cr_vI (cr_us S0 9 G)) (s_X9_thrown G) := by
  refine cr_enter (cc := cX9_thrown) (nL := 1) (rt := (some .int)) hEK (by decide) rfl (Nat.le_of_ble_eq_true rfl) (fun Γ hΓ X => ?_)
  subst hΓ
  have X : cr_X Γ E cX9_thrown 1 RX9 wsX9_thrown rm_X9_thrown (some .int) := X
  unfold s_X9_thrown
  show cr_P Γ E 1 _ 0 0 (cr_us S0 9 G) 0 ([(0, .ref (E.2.1 9 0))]) [] _
  refine cr_aload_n X 0 rfl dX9_thrown_0 ?_
  refine cr_get X ((cr_m0 E).at (cr_row S0 9 G 0) rfl) rfl i_X9_thrown_X9 7 (by decide) k_X9_thrown_1 rfl dX9_thrown_1 ?_
  exact cr_iret X rfl rfl dX9_thrown_4
theorem c_X9_thrown_S (l : Launch) (E : cr_E) (hEK : cr_EK E) (S : cr_S) : cr_M l E yX9_thrown wsX9_thrown rm_X9_thrown [.ref (E.2.1 9 0)] S (cr_vI S) (s_X9_thrown (S.1 9)) := by
  have h := c_X9_thrown l E hEK S (S.1 9)
  rw [cr_us_self] at h
  exact h
theorem k_X9_turbine_1 : (Cond.fieldLink RX9 28 "CraneCampaignModel" "thrown" "I") ∈ wsX9_turbine := List.mem_of_getElem? (i := 1) (by rfl)
theorem i_X9_turbine_X9 : ∀ w ∈ wsX90, w ∈ wsX9_turbine := by decide +kernel
abbrev rm_X9_turbine : Room := { frames := 2, cells := 0, slots := 0, locals := 45 }
set_option maxHeartbeats 4000000 in
set_option maxRecDepth 100000 in
theorem c_X9_turbine (l : Launch) (E : cr_E) (hEK : cr_EK E) (S0 : cr_S) (G : cr_G) (p1 : Int32) (p2 : Int32) : cr_M l E yX9_turbine wsX9_turbine rm_X9_turbine [.ref (E.2.1 9 0), .int p1, .int p2] (cr_us S0 9 G) (cr_vIG S0 9) (s_X9_turbine p1 p2 G) := by
  refine cr_enter (cc := cX9_turbine) (nL := 3) (rt := (some .int)) hEK (by decide) rfl (Nat.le_of_ble_eq_true rfl) (fun Γ hΓ X => ?_)
  subst hΓ
  have X : cr_X Γ E cX9_turbine 3 RX9 wsX9_turbine rm_X9_turbine (some .int) := X
  unfold s_X9_turbine
  show cr_P Γ E 3 _ 0 0 (cr_us S0 9 G) 0 ([(0, .ref (E.2.1 9 0)), (1, .int p1), (2, .int p2)]) [] _
  refine cr_aload_n X 0 rfl dX9_turbine_0 ?_
  refine cr_iconst X (0 : Int32) (by decide) dX9_turbine_1 ?_
  refine cr_putG X (cr_m0 E) 7 rfl rfl rfl i_X9_turbine_X9 tyX9 tyX9_ok nmX9 (by decide) k_X9_turbine_1 rfl rfl rfl (Nat.le_of_ble_eq_true rfl) dX9_turbine_2 (fun G2_1 => ?_)
  refine cr_aload_n X 0 rfl dX9_turbine_5 ?_
  refine cr_iload_n X 1 rfl dX9_turbine_6 ?_
  refine cr_callV X (As := [.int p1]) (rest := []) (c_X9_isTurbine Γ.2.1 E hEK S0 G2_1 p1) ((cr_m0 E).at (cr_row S0 9 G2_1 0) rfl) rfl 1 gX9_turbine_X9_isTurbine rfl rfl rfl (by decide +kernel) ⟨Nat.le_of_ble_eq_true rfl, Nat.le_of_ble_eq_true rfl⟩ (by decide) rfl rfl (Nat.le_of_ble_eq_true rfl) dX9_turbine_7 (fun r7_2 => ?_)
  show cr_P Γ E 3 _ 0 0 (cr_us S0 9 G2_1) 10 ([(0, .ref (E.2.1 9 0)), (1, .int p1), (2, .int p2)]) ([.int (cr_b r7_2)]) _
  refine cr_ifb_ne X 19 dX9_turbine_10 rfl ?_ ?_
  · refine cr_iload_n X 2 rfl dX9_turbine_19 ?_
    refine cr_iconst X (0 : Int32) (by decide) dX9_turbine_20 ?_
    refine cr_bipush X (10 : Int32) (by decide) dX9_turbine_21 ?_
    refine cr_callS X (As := [.int p2, .int ((0 : Int32)), .int ((10 : Int32))]) (rest := []) (c_X9_within Γ.2.1 E hEK ((cr_us S0 9 G2_1)) p2 ((0 : Int32)) ((10 : Int32))) 3 gX9_turbine_X9_within rfl rfl rfl (by decide +kernel) ⟨Nat.le_of_ble_eq_true rfl, Nat.le_of_ble_eq_true rfl⟩ (by decide) rfl rfl (Nat.le_of_ble_eq_true rfl) dX9_turbine_23 (fun r23_3 => ?_)
    show cr_P Γ E 3 _ 0 0 (cr_us S0 9 G2_1) 26 ([(0, .ref (E.2.1 9 0)), (1, .int p1), (2, .int p2)]) ([.int (cr_b r23_3)]) _
    refine cr_ifb_eq X 38 dX9_turbine_26 rfl ?_ ?_
    · refine cr_aload_n X 0 rfl dX9_turbine_38 ?_
      refine cr_iconst X (2 : Int32) (by decide) dX9_turbine_39 ?_
      refine cr_callV X (As := [.int ((2 : Int32))]) (rest := []) (c_X9_fails Γ.2.1 E hEK S0 G2_1 ((2 : Int32))) ((cr_m0 E).at (cr_row S0 9 G2_1 0) rfl) rfl 1 gX9_turbine_X9_fails rfl rfl rfl (by decide +kernel) ⟨Nat.le_of_ble_eq_true rfl, Nat.le_of_ble_eq_true rfl⟩ (by decide) rfl rfl (Nat.le_of_ble_eq_true rfl) dX9_turbine_40 (fun r40_4 => ?_)
      show cr_P Γ E 3 _ 0 0 (cr_us S0 9 r40_4.2) 43 ([(0, .ref (E.2.1 9 0)), (1, .int p1), (2, .int p2)]) ([.int r40_4.1]) _
      exact cr_iret X rfl rfl dX9_turbine_43
    · refine cr_aload_n X 0 rfl dX9_turbine_29 ?_
      refine cr_iload_n X 1 rfl dX9_turbine_30 ?_
      refine cr_iload_n X 2 rfl dX9_turbine_31 ?_
      refine cr_callV X (As := [.int p1, .int p2]) (rest := []) (c_X9_turbineNow Γ.2.1 E hEK S0 G2_1 p1 p2) ((cr_m0 E).at (cr_row S0 9 G2_1 0) rfl) rfl 2 gX9_turbine_X9_turbineNow rfl rfl rfl (by decide +kernel) ⟨Nat.le_of_ble_eq_true rfl, Nat.le_of_ble_eq_true rfl⟩ (by decide) rfl rfl (Nat.le_of_ble_eq_true rfl) dX9_turbine_32 (fun r32_5 => ?_)
      show cr_P Γ E 3 _ 0 0 (cr_us S0 9 G2_1) 35 ([(0, .ref (E.2.1 9 0)), (1, .int p1), (2, .int p2)]) ([.int r32_5]) _
      refine cr_goto X 43 dX9_turbine_35 rfl ?_
      exact cr_iret X rfl rfl dX9_turbine_43
  · refine cr_aload_n X 0 rfl dX9_turbine_13 ?_
    refine cr_iconst X (1 : Int32) (by decide) dX9_turbine_14 ?_
    refine cr_callV X (As := [.int ((1 : Int32))]) (rest := []) (c_X9_fails Γ.2.1 E hEK S0 G2_1 ((1 : Int32))) ((cr_m0 E).at (cr_row S0 9 G2_1 0) rfl) rfl 1 gX9_turbine_X9_fails rfl rfl rfl (by decide +kernel) ⟨Nat.le_of_ble_eq_true rfl, Nat.le_of_ble_eq_true rfl⟩ (by decide) rfl rfl (Nat.le_of_ble_eq_true rfl) dX9_turbine_15 (fun r15_6 => ?_)
    show cr_P Γ E 3 _ 0 0 (cr_us S0 9 r15_6.2) 18 ([(0, .ref (E.2.1 9 0)), (1, .int p1), (2, .int p2)]) ([.int r15_6.1]) _
    exact cr_iret X rfl rfl dX9_turbine_18
theorem c_X9_turbine_S (l : Launch) (E : cr_E) (hEK : cr_EK E) (S : cr_S) (p1 : Int32) (p2 : Int32) : cr_M l E yX9_turbine wsX9_turbine rm_X9_turbine [.ref (E.2.1 9 0), .int p1, .int p2] S (cr_vIG S 9) (s_X9_turbine  p1 p2 (S.1 9)) := by
  have h := c_X9_turbine l E hEK S (S.1 9) p1 p2
  rw [cr_us_self] at h
  exact h
theorem k_X9_undo_1 : (Cond.fieldLink RX9 28 "CraneCampaignModel" "thrown" "I") ∈ wsX9_undo := List.mem_of_getElem? (i := 1) (by rfl)
theorem k_X9_undo_2 : (Cond.fieldLink RX9 36 "CraneCampaignModel" "saved" "I") ∈ wsX9_undo := List.mem_of_getElem? (i := 2) (by rfl)
theorem k_X9_undo_3 : (Cond.fieldLink RX9 7 "CraneCampaignModel" "z" "[I") ∈ wsX9_undo := List.mem_of_getElem? (i := 3) (by rfl)
theorem k_X9_undo_4 : (Cond.fieldLink RX9 16 "CraneCampaignModel" "rows" "[I") ∈ wsX9_undo := List.mem_of_getElem? (i := 4) (by rfl)
theorem i_X9_undo_X9 : ∀ w ∈ wsX90, w ∈ wsX9_undo := by decide +kernel
abbrev rm_X9_undo : Room := { frames := 1, cells := 0, slots := 0, locals := 21 }
set_option maxHeartbeats 4000000 in
set_option maxRecDepth 100000 in
theorem b_X9_undo_30 {Γ : cr_C} {E : cr_E} (X : cr_X Γ E cX9_undo 2 RX9 wsX9_undo rm_X9_undo (some .int)) (S0 : cr_S) : ∀ (n : Nat) (x1 : Int32) (G : cr_G), cr_P Γ E 2 (cr_F Γ E (cr_vIG S0 9)) 0 0 (cr_us S0 9 G) 30 ([(0, .ref (E.2.1 9 0)), (1, .int x1)]) ([]) (s_X9_undo_30 n x1 G) := by
  have hEK := X.2.2.2.2.2.2.1
  intro n
  induction n with
  | zero => intro x1 G; exact cr_none
  | succ n ih =>
    intro x1 G
    rw [s_X9_undo_30]
    refine cr_iload_n X 1 rfl dX9_undo_30 ?_
    refine cr_sipush X (184 : Int32) (by decide) dX9_undo_31 ?_
    refine cr_icmp_ge X 64 dX9_undo_34 rfl ?_ ?_
    · refine cr_aload_n X 0 rfl dX9_undo_64 ?_
      refine cr_get X ((cr_m0 E).at (cr_row S0 9 G 0) rfl) rfl i_X9_undo_X9 5 (by decide) k_X9_undo_2 rfl dX9_undo_65 ?_
      exact cr_iret X rfl rfl dX9_undo_68
    · refine cr_aload_n X 0 rfl dX9_undo_37 ?_
      refine cr_get X ((cr_m0 E).at (cr_row S0 9 G 0) rfl) rfl i_X9_undo_X9 0 (by decide) k_X9_undo_3 rfl dX9_undo_38 ?_
      refine cr_iload_n X 1 rfl dX9_undo_41 ?_
      refine cr_aload_n X 0 rfl dX9_undo_42 ?_
      refine cr_get X ((cr_m0 E).at (cr_row S0 9 G 0) rfl) rfl i_X9_undo_X9 2 (by decide) k_X9_undo_4 rfl dX9_undo_43 ?_
      refine cr_sipush X (184 : Int32) (by decide) dX9_undo_46 ?_
      refine cr_aload_n X 0 rfl dX9_undo_49 ?_
      refine cr_get X ((cr_m0 E).at (cr_row S0 9 G 0) rfl) rfl i_X9_undo_X9 5 (by decide) k_X9_undo_2 rfl dX9_undo_50 ?_
      refine cr_imul X dX9_undo_53 ?_
      refine cr_iload_n X 1 rfl dX9_undo_54 ?_
      refine cr_iadd X dX9_undo_55 ?_
      refine cr_iald X ((cr_m3 E).at (cr_row S0 9 G 3) rfl) dX9_undo_56 ?_
      refine cr_iastG X (cr_m1 E) (fun _ _ => rfl) dX9_undo_57 (fun G57_4 => ?_)
      refine cr_iinc X (x1 + 1) (fun v58_5 => [(1, .int v58_5), (0, .ref (E.2.1 9 0))]) 1 rfl rfl (fun _ => rfl) (by decide) dX9_undo_58 (fun v58_5 => ?_)
      refine cr_goto X 30 dX9_undo_61 rfl ?_
      refine cr_sub (lv' := [(0, .ref (E.2.1 9 0)), (1, .int v58_5)]) [1, 0] rfl ?_
      exact ih v58_5 G57_4
set_option maxHeartbeats 4000000 in
set_option maxRecDepth 100000 in
theorem c_X9_undo (l : Launch) (E : cr_E) (hEK : cr_EK E) (S0 : cr_S) (G : cr_G) : cr_M l E yX9_undo wsX9_undo rm_X9_undo [.ref (E.2.1 9 0)] (cr_us S0 9 G) (cr_vIG S0 9) (s_X9_undo G) := by
  refine cr_enter (cc := cX9_undo) (nL := 2) (rt := (some .int)) hEK (by decide) rfl (Nat.le_of_ble_eq_true rfl) (fun Γ hΓ X => ?_)
  subst hΓ
  have X : cr_X Γ E cX9_undo 2 RX9 wsX9_undo rm_X9_undo (some .int) := X
  unfold s_X9_undo
  show cr_P Γ E 2 _ 0 0 (cr_us S0 9 G) 0 ([(0, .ref (E.2.1 9 0))]) [] _
  refine cr_aload_n X 0 rfl dX9_undo_0 ?_
  refine cr_iconst X (0 : Int32) (by decide) dX9_undo_1 ?_
  refine cr_putG X (cr_m0 E) 7 rfl rfl rfl i_X9_undo_X9 tyX9 tyX9_ok nmX9 (by decide) k_X9_undo_1 rfl rfl rfl (Nat.le_of_ble_eq_true rfl) dX9_undo_2 (fun G2_1 => ?_)
  refine cr_aload_n X 0 rfl dX9_undo_5 ?_
  refine cr_get X ((cr_m0 E).at (cr_row S0 9 G2_1 0) rfl) rfl i_X9_undo_X9 5 (by decide) k_X9_undo_2 rfl dX9_undo_6 ?_
  refine cr_if_ne X 18 dX9_undo_9 rfl ?_ ?_
  · refine cr_aload_n X 0 rfl dX9_undo_18 ?_
    refine cr_dup X rfl dX9_undo_19 ?_
    refine cr_get X ((cr_m0 E).at (cr_row S0 9 G2_1 0) rfl) rfl i_X9_undo_X9 5 (by decide) k_X9_undo_2 rfl dX9_undo_20 ?_
    refine cr_iconst X (1 : Int32) (by decide) dX9_undo_23 ?_
    refine cr_isub X dX9_undo_24 ?_
    refine cr_putG X (cr_m0 E) 5 rfl rfl rfl i_X9_undo_X9 tyX9 tyX9_ok nmX9 (by decide) k_X9_undo_2 rfl rfl rfl (Nat.le_of_ble_eq_true rfl) dX9_undo_25 (fun G25_2 => ?_)
    refine cr_iconst X (0 : Int32) (by decide) dX9_undo_28 ?_
    refine cr_istore_n X ([(1, .int ((0 : Int32))), (0, .ref (E.2.1 9 0))]) rfl (by decide) dX9_undo_29 ?_
    refine cr_sub (lv' := [(0, .ref (E.2.1 9 0)), (1, .int ((0 : Int32)))]) [1, 0] rfl ?_
    exact b_X9_undo_30 X S0 1200 ((0 : Int32)) G25_2
  · refine cr_aload_n X 0 rfl dX9_undo_12 ?_
    refine cr_iconst X (1 : Int32) (by decide) dX9_undo_13 ?_
    refine cr_callV X (As := [.int ((1 : Int32))]) (rest := []) (c_X9_fails Γ.2.1 E hEK S0 G2_1 ((1 : Int32))) ((cr_m0 E).at (cr_row S0 9 G2_1 0) rfl) rfl 1 gX9_undo_X9_fails rfl rfl rfl (by decide +kernel) ⟨Nat.le_of_ble_eq_true rfl, Nat.le_of_ble_eq_true rfl⟩ (by decide) rfl rfl (Nat.le_of_ble_eq_true rfl) dX9_undo_14 (fun r14_3 => ?_)
    show cr_P Γ E 2 _ 0 0 (cr_us S0 9 r14_3.2) 17 ([(0, .ref (E.2.1 9 0))]) ([.int r14_3.1]) _
    exact cr_iret X rfl rfl dX9_undo_17
theorem c_X9_undo_S (l : Launch) (E : cr_E) (hEK : cr_EK E) (S : cr_S) : cr_M l E yX9_undo wsX9_undo rm_X9_undo [.ref (E.2.1 9 0)] S (cr_vIG S 9) (s_X9_undo   (S.1 9)) := by
  have h := c_X9_undo l E hEK S (S.1 9)
  rw [cr_us_self] at h
  exact h
theorem k_X9_unplan_1 : (Cond.fieldLink RX9 28 "CraneCampaignModel" "thrown" "I") ∈ wsX9_unplan := List.mem_of_getElem? (i := 1) (by rfl)
theorem i_X9_unplan_X9 : ∀ w ∈ wsX90, w ∈ wsX9_unplan := by decide +kernel
abbrev rm_X9_unplan : Room := { frames := 2, cells := 0, slots := 0, locals := 43 }
set_option maxHeartbeats 4000000 in
set_option maxRecDepth 100000 in
theorem c_X9_unplan (l : Launch) (E : cr_E) (hEK : cr_EK E) (S0 : cr_S) (G : cr_G) (p1 : Int32) : cr_M l E yX9_unplan wsX9_unplan rm_X9_unplan [.ref (E.2.1 9 0), .int p1] (cr_us S0 9 G) (cr_vIG S0 9) (s_X9_unplan p1 G) := by
  refine cr_enter (cc := cX9_unplan) (nL := 3) (rt := (some .int)) hEK (by decide) rfl (Nat.le_of_ble_eq_true rfl) (fun Γ hΓ X => ?_)
  subst hΓ
  have X : cr_X Γ E cX9_unplan 3 RX9 wsX9_unplan rm_X9_unplan (some .int) := X
  unfold s_X9_unplan
  show cr_P Γ E 3 _ 0 0 (cr_us S0 9 G) 0 ([(0, .ref (E.2.1 9 0)), (1, .int p1)]) [] _
  refine cr_aload_n X 0 rfl dX9_unplan_0 ?_
  refine cr_iconst X (0 : Int32) (by decide) dX9_unplan_1 ?_
  refine cr_putG X (cr_m0 E) 7 rfl rfl rfl i_X9_unplan_X9 tyX9 tyX9_ok nmX9 (by decide) k_X9_unplan_1 rfl rfl rfl (Nat.le_of_ble_eq_true rfl) dX9_unplan_2 (fun G2_1 => ?_)
  refine cr_aload_n X 0 rfl dX9_unplan_5 ?_
  refine cr_iload_n X 1 rfl dX9_unplan_6 ?_
  refine cr_callV X (As := [.int p1]) (rest := []) (c_X9_isTurbine Γ.2.1 E hEK S0 G2_1 p1) ((cr_m0 E).at (cr_row S0 9 G2_1 0) rfl) rfl 1 gX9_unplan_X9_isTurbine rfl rfl rfl (by decide +kernel) ⟨Nat.le_of_ble_eq_true rfl, Nat.le_of_ble_eq_true rfl⟩ (by decide) rfl rfl (Nat.le_of_ble_eq_true rfl) dX9_unplan_7 (fun r7_2 => ?_)
  show cr_P Γ E 3 _ 0 0 (cr_us S0 9 G2_1) 10 ([(0, .ref (E.2.1 9 0)), (1, .int p1)]) ([.int (cr_b r7_2)]) _
  refine cr_ifb_ne X 19 dX9_unplan_10 rfl ?_ ?_
  · refine cr_aload_n X 0 rfl dX9_unplan_19 ?_
    refine cr_iload_n X 1 rfl dX9_unplan_20 ?_
    refine cr_callV X (As := [.int p1]) (rest := []) (c_X9_placeOf Γ.2.1 E hEK S0 G2_1 p1) ((cr_m0 E).at (cr_row S0 9 G2_1 0) rfl) rfl 1 gX9_unplan_X9_placeOf rfl rfl rfl (by decide +kernel) ⟨Nat.le_of_ble_eq_true rfl, Nat.le_of_ble_eq_true rfl⟩ (by decide) rfl rfl (Nat.le_of_ble_eq_true rfl) dX9_unplan_21 (fun r21_3 => ?_)
    show cr_P Γ E 3 _ 0 0 (cr_us S0 9 G2_1) 24 ([(0, .ref (E.2.1 9 0)), (1, .int p1)]) ([.int r21_3]) _
    refine cr_istore_n X ([(2, .int r21_3), (0, .ref (E.2.1 9 0)), (1, .int p1)]) rfl (by decide) dX9_unplan_24 ?_
    refine cr_iload_n X 0 rfl dX9_unplan_25 ?_
    refine cr_iconst X (-1 : Int32) (by decide) dX9_unplan_26 ?_
    refine cr_icmp_ne X 36 dX9_unplan_27 rfl ?_ ?_
    · refine cr_aload_n X 1 rfl dX9_unplan_36 ?_
      refine cr_callV X (As := []) (rest := []) (c_X9_save Γ.2.1 E hEK S0 G2_1) ((cr_m0 E).at (cr_row S0 9 G2_1 0) rfl) rfl 0 gX9_unplan_X9_save rfl rfl rfl (by decide +kernel) ⟨Nat.le_of_ble_eq_true rfl, Nat.le_of_ble_eq_true rfl⟩ (by decide) rfl rfl (Nat.le_of_ble_eq_true rfl) dX9_unplan_37 (fun r37_4 => ?_)
      show cr_P Γ E 3 _ 0 0 (cr_us S0 9 r37_4) 40 ([(2, .int r21_3), (0, .ref (E.2.1 9 0)), (1, .int p1)]) ([]) _
      refine cr_aload_n X 1 rfl dX9_unplan_40 ?_
      refine cr_iload_n X 0 rfl dX9_unplan_41 ?_
      refine cr_callV X (As := [.int r21_3]) (rest := []) (c_X9_takeOff Γ.2.1 E hEK S0 r37_4 r21_3) ((cr_m0 E).at (cr_row S0 9 r37_4 0) rfl) rfl 1 gX9_unplan_X9_takeOff rfl rfl rfl (by decide +kernel) ⟨Nat.le_of_ble_eq_true rfl, Nat.le_of_ble_eq_true rfl⟩ (by decide) rfl rfl (Nat.le_of_ble_eq_true rfl) dX9_unplan_42 (fun r42_5 => ?_)
      show cr_P Γ E 3 _ 0 0 (cr_us S0 9 r42_5) 45 ([(2, .int r21_3), (0, .ref (E.2.1 9 0)), (1, .int p1)]) ([]) _
      refine cr_iload_n X 0 rfl dX9_unplan_45 ?_
      exact cr_iret X rfl rfl dX9_unplan_46
    · refine cr_aload_n X 1 rfl dX9_unplan_30 ?_
      refine cr_iconst X (2 : Int32) (by decide) dX9_unplan_31 ?_
      refine cr_callV X (As := [.int ((2 : Int32))]) (rest := []) (c_X9_fails Γ.2.1 E hEK S0 G2_1 ((2 : Int32))) ((cr_m0 E).at (cr_row S0 9 G2_1 0) rfl) rfl 1 gX9_unplan_X9_fails rfl rfl rfl (by decide +kernel) ⟨Nat.le_of_ble_eq_true rfl, Nat.le_of_ble_eq_true rfl⟩ (by decide) rfl rfl (Nat.le_of_ble_eq_true rfl) dX9_unplan_32 (fun r32_6 => ?_)
      show cr_P Γ E 3 _ 0 0 (cr_us S0 9 r32_6.2) 35 ([(2, .int r21_3), (0, .ref (E.2.1 9 0)), (1, .int p1)]) ([.int r32_6.1]) _
      exact cr_iret X rfl rfl dX9_unplan_35
  · refine cr_aload_n X 0 rfl dX9_unplan_13 ?_
    refine cr_iconst X (1 : Int32) (by decide) dX9_unplan_14 ?_
    refine cr_callV X (As := [.int ((1 : Int32))]) (rest := []) (c_X9_fails Γ.2.1 E hEK S0 G2_1 ((1 : Int32))) ((cr_m0 E).at (cr_row S0 9 G2_1 0) rfl) rfl 1 gX9_unplan_X9_fails rfl rfl rfl (by decide +kernel) ⟨Nat.le_of_ble_eq_true rfl, Nat.le_of_ble_eq_true rfl⟩ (by decide) rfl rfl (Nat.le_of_ble_eq_true rfl) dX9_unplan_15 (fun r15_7 => ?_)
    show cr_P Γ E 3 _ 0 0 (cr_us S0 9 r15_7.2) 18 ([(0, .ref (E.2.1 9 0)), (1, .int p1)]) ([.int r15_7.1]) _
    exact cr_iret X rfl rfl dX9_unplan_18
theorem c_X9_unplan_S (l : Launch) (E : cr_E) (hEK : cr_EK E) (S : cr_S) (p1 : Int32) : cr_M l E yX9_unplan wsX9_unplan rm_X9_unplan [.ref (E.2.1 9 0), .int p1] S (cr_vIG S 9) (s_X9_unplan  p1 (S.1 9)) := by
  have h := c_X9_unplan l E hEK S (S.1 9) p1
  rw [cr_us_self] at h
  exact h
theorem k_X9_way_1 : (Cond.fieldLink RX9 28 "CraneCampaignModel" "thrown" "I") ∈ wsX9_way := List.mem_of_getElem? (i := 1) (by rfl)
theorem i_X9_way_X9 : ∀ w ∈ wsX90, w ∈ wsX9_way := by decide +kernel
abbrev rm_X9_way : Room := { frames := 1, cells := 0, slots := 0, locals := 27 }
set_option maxHeartbeats 4000000 in
set_option maxRecDepth 100000 in
theorem b_X9_way_34 {Γ : cr_C} {E : cr_E} (X : cr_X Γ E cX9_way 3 RX9 wsX9_way rm_X9_way (some .int)) (S0 : cr_S)  (G : cr_G) : cr_P Γ E 3 (cr_F Γ E (cr_vIG S0 9)) 0 0 (cr_us S0 9 G) 34 ([(0, .ref (E.2.1 9 0))]) ([]) (s_X9_way_34 G) := by
  have hEK := X.2.2.2.2.2.2.1
  unfold s_X9_way_34
  refine cr_aload_n X 0 rfl dX9_way_34 ?_
  refine cr_iconst X (1 : Int32) (by decide) dX9_way_35 ?_
  refine cr_callV X (As := [.int ((1 : Int32))]) (rest := []) (c_X9_fails Γ.2.1 E hEK S0 G ((1 : Int32))) ((cr_m0 E).at (cr_row S0 9 G 0) rfl) rfl 1 gX9_way_X9_fails rfl rfl rfl (by decide +kernel) ⟨Nat.le_of_ble_eq_true rfl, Nat.le_of_ble_eq_true rfl⟩ (by decide) rfl rfl (Nat.le_of_ble_eq_true rfl) dX9_way_36 (fun r36_5 => ?_)
  show cr_P Γ E 3 _ 0 0 (cr_us S0 9 r36_5.2) 39 ([(0, .ref (E.2.1 9 0))]) ([.int r36_5.1]) _
  exact cr_iret X rfl rfl dX9_way_39
set_option maxHeartbeats 4000000 in
set_option maxRecDepth 100000 in
theorem c_X9_way (l : Launch) (E : cr_E) (hEK : cr_EK E) (S0 : cr_S) (G : cr_G) (p1 : Int32) (p2 : Int32) : cr_M l E yX9_way wsX9_way rm_X9_way [.ref (E.2.1 9 0), .int p1, .int p2] (cr_us S0 9 G) (cr_vIG S0 9) (s_X9_way p1 p2 G) := by
  refine cr_enter (cc := cX9_way) (nL := 3) (rt := (some .int)) hEK (by decide) rfl (Nat.le_of_ble_eq_true rfl) (fun Γ hΓ X => ?_)
  subst hΓ
  have X : cr_X Γ E cX9_way 3 RX9 wsX9_way rm_X9_way (some .int) := X
  unfold s_X9_way
  show cr_P Γ E 3 _ 0 0 (cr_us S0 9 G) 0 ([(0, .ref (E.2.1 9 0)), (1, .int p1), (2, .int p2)]) [] _
  refine cr_aload_n X 0 rfl dX9_way_0 ?_
  refine cr_iconst X (0 : Int32) (by decide) dX9_way_1 ?_
  refine cr_putG X (cr_m0 E) 7 rfl rfl rfl i_X9_way_X9 tyX9 tyX9_ok nmX9 (by decide) k_X9_way_1 rfl rfl rfl (Nat.le_of_ble_eq_true rfl) dX9_way_2 (fun G2_1 => ?_)
  refine cr_iload_n X 1 rfl dX9_way_5 ?_
  refine cr_iconst X (0 : Int32) (by decide) dX9_way_6 ?_
  refine cr_bipush X (99 : Int32) (by decide) dX9_way_7 ?_
  refine cr_callS X (As := [.int p1, .int ((0 : Int32)), .int ((99 : Int32))]) (rest := []) (c_X9_within Γ.2.1 E hEK ((cr_us S0 9 G2_1)) p1 ((0 : Int32)) ((99 : Int32))) 3 gX9_way_X9_within rfl rfl rfl (by decide +kernel) ⟨Nat.le_of_ble_eq_true rfl, Nat.le_of_ble_eq_true rfl⟩ (by decide) rfl rfl (Nat.le_of_ble_eq_true rfl) dX9_way_9 (fun r9_2 => ?_)
  show cr_P Γ E 3 _ 0 0 (cr_us S0 9 G2_1) 12 ([(0, .ref (E.2.1 9 0)), (1, .int p1), (2, .int p2)]) ([.int (cr_b r9_2)]) _
  refine cr_ifb_eq X 34 dX9_way_12 rfl ?_ ?_
  · refine cr_sub (lv' := [(0, .ref (E.2.1 9 0))]) [0] rfl ?_
    exact b_X9_way_34 X S0 G2_1
  · refine cr_iload_n X 2 rfl dX9_way_15 ?_
    refine cr_iconst X (0 : Int32) (by decide) dX9_way_16 ?_
    refine cr_bipush X (99 : Int32) (by decide) dX9_way_17 ?_
    refine cr_callS X (As := [.int p2, .int ((0 : Int32)), .int ((99 : Int32))]) (rest := []) (c_X9_within Γ.2.1 E hEK ((cr_us S0 9 G2_1)) p2 ((0 : Int32)) ((99 : Int32))) 3 gX9_way_X9_within rfl rfl rfl (by decide +kernel) ⟨Nat.le_of_ble_eq_true rfl, Nat.le_of_ble_eq_true rfl⟩ (by decide) rfl rfl (Nat.le_of_ble_eq_true rfl) dX9_way_19 (fun r19_3 => ?_)
    show cr_P Γ E 3 _ 0 0 (cr_us S0 9 G2_1) 22 ([(0, .ref (E.2.1 9 0)), (1, .int p1), (2, .int p2)]) ([.int (cr_b r19_3)]) _
    refine cr_ifb_eq X 34 dX9_way_22 rfl ?_ ?_
    · refine cr_sub (lv' := [(0, .ref (E.2.1 9 0))]) [0] rfl ?_
      exact b_X9_way_34 X S0 G2_1
    · refine cr_aload_n X 0 rfl dX9_way_25 ?_
      refine cr_iload_n X 1 rfl dX9_way_26 ?_
      refine cr_iload_n X 2 rfl dX9_way_27 ?_
      refine cr_callV X (As := [.int p1, .int p2]) (rest := []) (c_X9_hoursOf Γ.2.1 E hEK S0 G2_1 p1 p2) ((cr_m0 E).at (cr_row S0 9 G2_1 0) rfl) rfl 2 gX9_way_X9_hoursOf rfl rfl rfl (by decide +kernel) ⟨Nat.le_of_ble_eq_true rfl, Nat.le_of_ble_eq_true rfl⟩ (by decide) rfl rfl (Nat.le_of_ble_eq_true rfl) dX9_way_28 (fun r28_4 => ?_)
      show cr_P Γ E 3 _ 0 0 (cr_us S0 9 G2_1) 31 ([(0, .ref (E.2.1 9 0)), (1, .int p1), (2, .int p2)]) ([.int r28_4]) _
      refine cr_goto X 39 dX9_way_31 rfl ?_
      exact cr_iret X rfl rfl dX9_way_39
theorem c_X9_way_S (l : Launch) (E : cr_E) (hEK : cr_EK E) (S : cr_S) (p1 : Int32) (p2 : Int32) : cr_M l E yX9_way wsX9_way rm_X9_way [.ref (E.2.1 9 0), .int p1, .int p2] S (cr_vIG S 9) (s_X9_way  p1 p2 (S.1 9)) := by
  have h := c_X9_way l E hEK S (S.1 9) p1 p2
  rw [cr_us_self] at h
  exact h
theorem k_X9_window_1 : (Cond.fieldLink RX9 28 "CraneCampaignModel" "thrown" "I") ∈ wsX9_window := List.mem_of_getElem? (i := 1) (by rfl)
theorem i_X9_window_X9 : ∀ w ∈ wsX90, w ∈ wsX9_window := by decide +kernel
abbrev rm_X9_window : Room := { frames := 2, cells := 0, slots := 0, locals := 45 }
set_option maxHeartbeats 4000000 in
set_option maxRecDepth 100000 in
theorem c_X9_window (l : Launch) (E : cr_E) (hEK : cr_EK E) (S0 : cr_S) (G : cr_G) (p1 : Int32) (p2 : Int32) : cr_M l E yX9_window wsX9_window rm_X9_window [.ref (E.2.1 9 0), .int p1, .int p2] (cr_us S0 9 G) (cr_vIG S0 9) (s_X9_window p1 p2 G) := by
  refine cr_enter (cc := cX9_window) (nL := 3) (rt := (some .int)) hEK (by decide) rfl (Nat.le_of_ble_eq_true rfl) (fun Γ hΓ X => ?_)
  subst hΓ
  have X : cr_X Γ E cX9_window 3 RX9 wsX9_window rm_X9_window (some .int) := X
  unfold s_X9_window
  show cr_P Γ E 3 _ 0 0 (cr_us S0 9 G) 0 ([(0, .ref (E.2.1 9 0)), (1, .int p1), (2, .int p2)]) [] _
  refine cr_aload_n X 0 rfl dX9_window_0 ?_
  refine cr_iconst X (0 : Int32) (by decide) dX9_window_1 ?_
  refine cr_putG X (cr_m0 E) 7 rfl rfl rfl i_X9_window_X9 tyX9 tyX9_ok nmX9 (by decide) k_X9_window_1 rfl rfl rfl (Nat.le_of_ble_eq_true rfl) dX9_window_2 (fun G2_1 => ?_)
  refine cr_aload_n X 0 rfl dX9_window_5 ?_
  refine cr_iload_n X 1 rfl dX9_window_6 ?_
  refine cr_callV X (As := [.int p1]) (rest := []) (c_X9_isTurbine Γ.2.1 E hEK S0 G2_1 p1) ((cr_m0 E).at (cr_row S0 9 G2_1 0) rfl) rfl 1 gX9_window_X9_isTurbine rfl rfl rfl (by decide +kernel) ⟨Nat.le_of_ble_eq_true rfl, Nat.le_of_ble_eq_true rfl⟩ (by decide) rfl rfl (Nat.le_of_ble_eq_true rfl) dX9_window_7 (fun r7_2 => ?_)
  show cr_P Γ E 3 _ 0 0 (cr_us S0 9 G2_1) 10 ([(0, .ref (E.2.1 9 0)), (1, .int p1), (2, .int p2)]) ([.int (cr_b r7_2)]) _
  refine cr_ifb_ne X 19 dX9_window_10 rfl ?_ ?_
  · refine cr_iload_n X 2 rfl dX9_window_19 ?_
    refine cr_iconst X (1 : Int32) (by decide) dX9_window_20 ?_
    refine cr_bipush X (24 : Int32) (by decide) dX9_window_21 ?_
    refine cr_callS X (As := [.int p2, .int ((1 : Int32)), .int ((24 : Int32))]) (rest := []) (c_X9_within Γ.2.1 E hEK ((cr_us S0 9 G2_1)) p2 ((1 : Int32)) ((24 : Int32))) 3 gX9_window_X9_within rfl rfl rfl (by decide +kernel) ⟨Nat.le_of_ble_eq_true rfl, Nat.le_of_ble_eq_true rfl⟩ (by decide) rfl rfl (Nat.le_of_ble_eq_true rfl) dX9_window_23 (fun r23_3 => ?_)
    show cr_P Γ E 3 _ 0 0 (cr_us S0 9 G2_1) 26 ([(0, .ref (E.2.1 9 0)), (1, .int p1), (2, .int p2)]) ([.int (cr_b r23_3)]) _
    refine cr_ifb_eq X 38 dX9_window_26 rfl ?_ ?_
    · refine cr_aload_n X 0 rfl dX9_window_38 ?_
      refine cr_iconst X (2 : Int32) (by decide) dX9_window_39 ?_
      refine cr_callV X (As := [.int ((2 : Int32))]) (rest := []) (c_X9_fails Γ.2.1 E hEK S0 G2_1 ((2 : Int32))) ((cr_m0 E).at (cr_row S0 9 G2_1 0) rfl) rfl 1 gX9_window_X9_fails rfl rfl rfl (by decide +kernel) ⟨Nat.le_of_ble_eq_true rfl, Nat.le_of_ble_eq_true rfl⟩ (by decide) rfl rfl (Nat.le_of_ble_eq_true rfl) dX9_window_40 (fun r40_4 => ?_)
      show cr_P Γ E 3 _ 0 0 (cr_us S0 9 r40_4.2) 43 ([(0, .ref (E.2.1 9 0)), (1, .int p1), (2, .int p2)]) ([.int r40_4.1]) _
      exact cr_iret X rfl rfl dX9_window_43
    · refine cr_aload_n X 0 rfl dX9_window_29 ?_
      refine cr_iload_n X 1 rfl dX9_window_30 ?_
      refine cr_iload_n X 2 rfl dX9_window_31 ?_
      refine cr_callV X (As := [.int p1, .int p2]) (rest := []) (c_X9_windowOf Γ.2.1 E hEK S0 G2_1 p1 p2) ((cr_m0 E).at (cr_row S0 9 G2_1 0) rfl) rfl 2 gX9_window_X9_windowOf rfl rfl rfl (by decide +kernel) ⟨Nat.le_of_ble_eq_true rfl, Nat.le_of_ble_eq_true rfl⟩ (by decide) rfl rfl (Nat.le_of_ble_eq_true rfl) dX9_window_32 (fun r32_5 => ?_)
      show cr_P Γ E 3 _ 0 0 (cr_us S0 9 G2_1) 35 ([(0, .ref (E.2.1 9 0)), (1, .int p1), (2, .int p2)]) ([.int r32_5]) _
      refine cr_goto X 43 dX9_window_35 rfl ?_
      exact cr_iret X rfl rfl dX9_window_43
  · refine cr_aload_n X 0 rfl dX9_window_13 ?_
    refine cr_iconst X (1 : Int32) (by decide) dX9_window_14 ?_
    refine cr_callV X (As := [.int ((1 : Int32))]) (rest := []) (c_X9_fails Γ.2.1 E hEK S0 G2_1 ((1 : Int32))) ((cr_m0 E).at (cr_row S0 9 G2_1 0) rfl) rfl 1 gX9_window_X9_fails rfl rfl rfl (by decide +kernel) ⟨Nat.le_of_ble_eq_true rfl, Nat.le_of_ble_eq_true rfl⟩ (by decide) rfl rfl (Nat.le_of_ble_eq_true rfl) dX9_window_15 (fun r15_6 => ?_)
    show cr_P Γ E 3 _ 0 0 (cr_us S0 9 r15_6.2) 18 ([(0, .ref (E.2.1 9 0)), (1, .int p1), (2, .int p2)]) ([.int r15_6.1]) _
    exact cr_iret X rfl rfl dX9_window_18
theorem c_X9_window_S (l : Launch) (E : cr_E) (hEK : cr_EK E) (S : cr_S) (p1 : Int32) (p2 : Int32) : cr_M l E yX9_window wsX9_window rm_X9_window [.ref (E.2.1 9 0), .int p1, .int p2] S (cr_vIG S 9) (s_X9_window  p1 p2 (S.1 9)) := by
  have h := c_X9_window l E hEK S (S.1 9) p1 p2
  rw [cr_us_self] at h
  exact h
