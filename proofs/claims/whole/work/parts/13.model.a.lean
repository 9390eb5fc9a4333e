abbrev rm_X9_within : Room := { frames := 0, cells := 0, slots := 0, locals := 0 }
set_option maxHeartbeats 4000000 in
set_option maxRecDepth 100000 in
theorem c_X9_within (l : Launch) (E : cr_E) (hEK : cr_EK E) (S : cr_S) (p0 : Int32) (p1 : Int32) (p2 : Int32) : cr_M l E yX9_within wsX9_within rm_X9_within [.int p0, .int p1, .int p2] S (cr_vB S) (s_X9_within p0 p1 p2) := by
  refine cr_enter (cc := cX9_within) (nL := 3) (rt := (some .boolean)) hEK (by decide) rfl (Nat.le_of_ble_eq_true rfl) (fun Γ hΓ X => ?_)
  subst hΓ
  have X : cr_X Γ E cX9_within 3 RX9 wsX9_within rm_X9_within (some .boolean) := X
  unfold s_X9_within
  show cr_P Γ E 3 _ 0 0 S 0 ([(0, .int p0), (1, .int p1), (2, .int p2)]) [] _
  refine cr_iload_n X 0 rfl dX9_within_0 ?_
  refine cr_iload_n X 1 rfl dX9_within_1 ?_
  refine cr_icmp_lt X 14 dX9_within_2 rfl ?_ ?_
  · refine cr_iconst X (0 : Int32) (by decide) dX9_within_14 ?_
    exact cr_zret X false rfl rfl rfl dX9_within_15
  · refine cr_iload_n X 0 rfl dX9_within_5 ?_
    refine cr_iload_n X 2 rfl dX9_within_6 ?_
    refine cr_icmp_gt X 14 dX9_within_7 rfl ?_ ?_
    · refine cr_iconst X (0 : Int32) (by decide) dX9_within_14 ?_
      exact cr_zret X false rfl rfl rfl dX9_within_15
    · refine cr_iconst X (1 : Int32) (by decide) dX9_within_10 ?_
      refine cr_goto X 15 dX9_within_11 rfl ?_
      exact cr_zret X true rfl rfl rfl dX9_within_15
theorem k_X9_fails_1 : (Cond.fieldLink RX9 28 "CraneCampaignModel" "thrown" "I") ∈ wsX9_fails := List.mem_of_getElem? (i := 1) (by rfl)
theorem i_X9_fails_X9 : ∀ w ∈ wsX90, w ∈ wsX9_fails := by decide +kernel
abbrev rm_X9_fails : Room := { frames := 0, cells := 0, slots := 0, locals := 0 }
set_option maxHeartbeats 4000000 in
set_option maxRecDepth 100000 in
theorem c_X9_fails (l : Launch) (E : cr_E) (hEK : cr_EK E) (S0 : cr_S) (G : cr_G) (p1 : Int32) : cr_M l E yX9_fails wsX9_fails rm_X9_fails [.ref (E.2.1 9 0), .int p1] (cr_us S0 9 G) (cr_vIG S0 9) (s_X9_fails p1 G) := by
  refine cr_enter (cc := cX9_fails) (nL := 2) (rt := (some .int)) hEK (by decide) rfl (Nat.le_of_ble_eq_true rfl) (fun Γ hΓ X => ?_)
  subst hΓ
  have X : cr_X Γ E cX9_fails 2 RX9 wsX9_fails rm_X9_fails (some .int) := X
  unfold s_X9_fails
  show cr_P Γ E 2 _ 0 0 (cr_us S0 9 G) 0 ([(0, .ref (E.2.1 9 0)), (1, .int p1)]) [] _
  refine cr_aload_n X 0 rfl dX9_fails_0 ?_
  refine cr_iload_n X 1 rfl dX9_fails_1 ?_
  refine cr_putG X (cr_m0 E) 7 rfl rfl rfl i_X9_fails_X9 tyX9 tyX9_ok nmX9 (by decide) k_X9_fails_1 rfl rfl rfl (Nat.le_of_ble_eq_true rfl) dX9_fails_2 (fun G2_1 => ?_)
  refine cr_iconst X (0 : Int32) (by decide) dX9_fails_5 ?_
  exact cr_iret X rfl rfl dX9_fails_6
theorem c_X9_fails_S (l : Launch) (E : cr_E) (hEK : cr_EK E) (S : cr_S) (p1 : Int32) : cr_M l E yX9_fails wsX9_fails rm_X9_fails [.ref (E.2.1 9 0), .int p1] S (cr_vIG S 9) (s_X9_fails  p1 (S.1 9)) := by
  have h := c_X9_fails l E hEK S (S.1 9) p1
  rw [cr_us_self] at h
  exact h
theorem k_X9_save_1 : (Cond.fieldLink RX9 36 "CraneCampaignModel" "saved" "I") ∈ wsX9_save := List.mem_of_getElem? (i := 1) (by rfl)
theorem k_X9_save_2 : (Cond.fieldLink RX9 16 "CraneCampaignModel" "rows" "[I") ∈ wsX9_save := List.mem_of_getElem? (i := 2) (by rfl)
theorem k_X9_save_3 : (Cond.fieldLink RX9 7 "CraneCampaignModel" "z" "[I") ∈ wsX9_save := List.mem_of_getElem? (i := 3) (by rfl)
theorem i_X9_save_X9 : ∀ w ∈ wsX90, w ∈ wsX9_save := by decide +kernel
abbrev rm_X9_save : Room := { frames := 0, cells := 0, slots := 0, locals := 0 }
set_option maxHeartbeats 4000000 in
set_option maxRecDepth 100000 in
theorem b_X9_save_52 {Γ : cr_C} {E : cr_E} (X : cr_X Γ E cX9_save 2 RX9 wsX9_save rm_X9_save none) (S0 : cr_S) : ∀ (n : Nat) (x1 : Int32) (G : cr_G), cr_P Γ E 2 (cr_F Γ E (cr_vVG S0 9)) 0 0 (cr_us S0 9 G) 52 ([(0, .ref (E.2.1 9 0)), (1, .int x1)]) ([]) (s_X9_save_52 n x1 G) := by
  have hEK := X.2.2.2.2.2.2.1
  intro n
  induction n with
  | zero => intro x1 G; exact cr_none
  | succ n ih =>
    intro x1 G
    rw [s_X9_save_52]
    refine cr_iload_n X 1 rfl dX9_save_52 ?_
    refine cr_sipush X (184 : Int32) (by decide) dX9_save_53 ?_
    refine cr_icmp_ge X 86 dX9_save_56 rfl ?_ ?_
    · refine cr_aload_n X 0 rfl dX9_save_86 ?_
      refine cr_dup X rfl dX9_save_87 ?_
      refine cr_get X ((cr_m0 E).at (cr_row S0 9 G 0) rfl) rfl i_X9_save_X9 5 (by decide) k_X9_save_1 rfl dX9_save_88 ?_
      refine cr_iconst X (1 : Int32) (by decide) dX9_save_91 ?_
      refine cr_iadd X dX9_save_92 ?_
      refine cr_putG X (cr_m0 E) 5 rfl rfl rfl i_X9_save_X9 tyX9 tyX9_ok nmX9 (by decide) k_X9_save_1 rfl rfl rfl (Nat.le_of_ble_eq_true rfl) dX9_save_93 (fun G93_1 => ?_)
      exact cr_vret X rfl rfl dX9_save_96
    · refine cr_aload_n X 0 rfl dX9_save_59 ?_
      refine cr_get X ((cr_m0 E).at (cr_row S0 9 G 0) rfl) rfl i_X9_save_X9 2 (by decide) k_X9_save_2 rfl dX9_save_60 ?_
      refine cr_sipush X (184 : Int32) (by decide) dX9_save_63 ?_
      refine cr_aload_n X 0 rfl dX9_save_66 ?_
      refine cr_get X ((cr_m0 E).at (cr_row S0 9 G 0) rfl) rfl i_X9_save_X9 5 (by decide) k_X9_save_1 rfl dX9_save_67 ?_
      refine cr_imul X dX9_save_70 ?_
      refine cr_iload_n X 1 rfl dX9_save_71 ?_
      refine cr_iadd X dX9_save_72 ?_
      refine cr_aload_n X 0 rfl dX9_save_73 ?_
      refine cr_get X ((cr_m0 E).at (cr_row S0 9 G 0) rfl) rfl i_X9_save_X9 0 (by decide) k_X9_save_3 rfl dX9_save_74 ?_
      refine cr_iload_n X 1 rfl dX9_save_77 ?_
      refine cr_iald X ((cr_m1 E).at (cr_row S0 9 G 1) rfl) dX9_save_78 ?_
      refine cr_iastG X (cr_m3 E) (fun _ _ => rfl) dX9_save_79 (fun G79_2 => ?_)
      refine cr_iinc X (x1 + 1) (fun v80_3 => [(1, .int v80_3), (0, .ref (E.2.1 9 0))]) 1 rfl rfl (fun _ => rfl) (by decide) dX9_save_80 (fun v80_3 => ?_)
      refine cr_goto X 52 dX9_save_83 rfl ?_
      refine cr_sub (lv' := [(0, .ref (E.2.1 9 0)), (1, .int v80_3)]) [1, 0] rfl ?_
      exact ih v80_3 G79_2
set_option maxHeartbeats 4000000 in
set_option maxRecDepth 100000 in
theorem b_X9_save_11 {Γ : cr_C} {E : cr_E} (X : cr_X Γ E cX9_save 2 RX9 wsX9_save rm_X9_save none) (S0 : cr_S) : ∀ (n : Nat) (x1 : Int32) (G : cr_G), cr_P Γ E 2 (cr_F Γ E (cr_vVG S0 9)) 0 0 (cr_us S0 9 G) 11 ([(0, .ref (E.2.1 9 0)), (1, .int x1)]) ([]) (s_X9_save_11 n x1 G) := by
  have hEK := X.2.2.2.2.2.2.1
  intro n
  induction n with
  | zero => intro x1 G; exact cr_none
  | succ n ih =>
    intro x1 G
    rw [s_X9_save_11]
    refine cr_iload_n X 1 rfl dX9_save_11 ?_
    refine cr_sipush X (920 : Int32) (by decide) dX9_save_12 ?_
    refine cr_icmp_ge X 40 dX9_save_15 rfl ?_ ?_
    · refine cr_aload_n X 0 rfl dX9_save_40 ?_
      refine cr_dup X rfl dX9_save_41 ?_
      refine cr_get X ((cr_m0 E).at (cr_row S0 9 G 0) rfl) rfl i_X9_save_X9 5 (by decide) k_X9_save_1 rfl dX9_save_42 ?_
      refine cr_iconst X (1 : Int32) (by decide) dX9_save_45 ?_
      refine cr_isub X dX9_save_46 ?_
      refine cr_putG X (cr_m0 E) 5 rfl rfl rfl i_X9_save_X9 tyX9 tyX9_ok nmX9 (by decide) k_X9_save_1 rfl rfl rfl (Nat.le_of_ble_eq_true rfl) dX9_save_47 (fun G47_4 => ?_)
      refine cr_iconst X (0 : Int32) (by decide) dX9_save_50 ?_
      refine cr_istore_n X ([(1, .int ((0 : Int32))), (0, .ref (E.2.1 9 0))]) rfl (by decide) dX9_save_51 ?_
      refine cr_sub (lv' := [(0, .ref (E.2.1 9 0)), (1, .int ((0 : Int32)))]) [1, 0] rfl ?_
      exact b_X9_save_52 X S0 1200 ((0 : Int32)) G47_4
    · refine cr_aload_n X 0 rfl dX9_save_18 ?_
      refine cr_get X ((cr_m0 E).at (cr_row S0 9 G 0) rfl) rfl i_X9_save_X9 2 (by decide) k_X9_save_2 rfl dX9_save_19 ?_
      refine cr_iload_n X 1 rfl dX9_save_22 ?_
      refine cr_aload_n X 0 rfl dX9_save_23 ?_
      refine cr_get X ((cr_m0 E).at (cr_row S0 9 G 0) rfl) rfl i_X9_save_X9 2 (by decide) k_X9_save_2 rfl dX9_save_24 ?_
      refine cr_sipush X (184 : Int32) (by decide) dX9_save_27 ?_
      refine cr_iload_n X 1 rfl dX9_save_30 ?_
      refine cr_iadd X dX9_save_31 ?_
      refine cr_iald X ((cr_m3 E).at (cr_row S0 9 G 3) rfl) dX9_save_32 ?_
      refine cr_iastG X (cr_m3 E) (fun _ _ => rfl) dX9_save_33 (fun G33_5 => ?_)
      refine cr_iinc X (x1 + 1) (fun v34_6 => [(1, .int v34_6), (0, .ref (E.2.1 9 0))]) 1 rfl rfl (fun _ => rfl) (by decide) dX9_save_34 (fun v34_6 => ?_)
      refine cr_goto X 11 dX9_save_37 rfl ?_
      refine cr_sub (lv' := [(0, .ref (E.2.1 9 0)), (1, .int v34_6)]) [1, 0] rfl ?_
      exact ih v34_6 G33_5
set_option maxHeartbeats 4000000 in
set_option maxRecDepth 100000 in
theorem c_X9_save (l : Launch) (E : cr_E) (hEK : cr_EK E) (S0 : cr_S) (G : cr_G) : cr_M l E yX9_save wsX9_save rm_X9_save [.ref (E.2.1 9 0)] (cr_us S0 9 G) (cr_vVG S0 9) (s_X9_save G) := by
  refine cr_enter (cc := cX9_save) (nL := 2) (rt := none) hEK (by decide) rfl (Nat.le_of_ble_eq_true rfl) (fun Γ hΓ X => ?_)
  subst hΓ
  have X : cr_X Γ E cX9_save 2 RX9 wsX9_save rm_X9_save none := X
  unfold s_X9_save
  show cr_P Γ E 2 _ 0 0 (cr_us S0 9 G) 0 ([(0, .ref (E.2.1 9 0))]) [] _
  refine cr_aload_n X 0 rfl dX9_save_0 ?_
  refine cr_get X ((cr_m0 E).at (cr_row S0 9 G 0) rfl) rfl i_X9_save_X9 5 (by decide) k_X9_save_1 rfl dX9_save_1 ?_
  refine cr_bipush X (6 : Int32) (by decide) dX9_save_4 ?_
  refine cr_icmp_ne X 50 dX9_save_6 rfl ?_ ?_
  · refine cr_iconst X (0 : Int32) (by decide) dX9_save_50 ?_
    refine cr_istore_n X ([(1, .int ((0 : Int32))), (0, .ref (E.2.1 9 0))]) rfl (by decide) dX9_save_51 ?_
    refine cr_sub (lv' := [(0, .ref (E.2.1 9 0)), (1, .int ((0 : Int32)))]) [1, 0] rfl ?_
    exact b_X9_save_52 X S0 1200 ((0 : Int32)) G
  · refine cr_iconst X (0 : Int32) (by decide) dX9_save_9 ?_
    refine cr_istore_n X ([(1, .int ((0 : Int32))), (0, .ref (E.2.1 9 0))]) rfl (by decide) dX9_save_10 ?_
    refine cr_sub (lv' := [(0, .ref (E.2.1 9 0)), (1, .int ((0 : Int32)))]) [1, 0] rfl ?_
    exact b_X9_save_11 X S0 1200 ((0 : Int32)) G
theorem c_X9_save_S (l : Launch) (E : cr_E) (hEK : cr_EK E) (S : cr_S) : cr_M l E yX9_save wsX9_save rm_X9_save [.ref (E.2.1 9 0)] S (cr_vVG S 9) (s_X9_save   (S.1 9)) := by
  have h := c_X9_save l E hEK S (S.1 9)
  rw [cr_us_self] at h
  exact h
theorem k_X9_addTurbine_1 : (Cond.fieldLink RX9 28 "CraneCampaignModel" "thrown" "I") ∈ wsX9_addTurbine := List.mem_of_getElem? (i := 1) (by rfl)
theorem k_X9_addTurbine_2 : (Cond.fieldLink RX9 7 "CraneCampaignModel" "z" "[I") ∈ wsX9_addTurbine := List.mem_of_getElem? (i := 2) (by rfl)
theorem i_X9_addTurbine_X9 : ∀ w ∈ wsX90, w ∈ wsX9_addTurbine := by decide +kernel
abbrev rm_X9_addTurbine : Room := { frames := 1, cells := 0, slots := 0, locals := 22 }
set_option maxHeartbeats 4000000 in
set_option maxRecDepth 100000 in
theorem b_X9_addTurbine_37 {Γ : cr_C} {E : cr_E} (X : cr_X Γ E cX9_addTurbine 6 RX9 wsX9_addTurbine rm_X9_addTurbine (some .int)) (S0 : cr_S)  (G : cr_G) : cr_P Γ E 6 (cr_F Γ E (cr_vIG S0 9)) 0 0 (cr_us S0 9 G) 37 ([(0, .ref (E.2.1 9 0))]) ([]) (s_X9_addTurbine_37 G) := by
  have hEK := X.2.2.2.2.2.2.1
  unfold s_X9_addTurbine_37
  refine cr_aload_n X 0 rfl dX9_addTurbine_37 ?_
  refine cr_iconst X (1 : Int32) (by decide) dX9_addTurbine_38 ?_
  refine cr_callV X (As := [.int ((1 : Int32))]) (rest := []) (c_X9_fails Γ.2.1 E hEK S0 G ((1 : Int32))) ((cr_m0 E).at (cr_row S0 9 G 0) rfl) rfl 1 gX9_addTurbine_X9_fails rfl rfl rfl (by decide +kernel) ⟨Nat.le_of_ble_eq_true rfl, Nat.le_of_ble_eq_true rfl⟩ (by decide) rfl rfl (Nat.le_of_ble_eq_true rfl) dX9_addTurbine_39 (fun r39_5 => ?_)
  show cr_P Γ E 6 _ 0 0 (cr_us S0 9 r39_5.2) 42 ([(0, .ref (E.2.1 9 0))]) ([.int r39_5.1]) _
  exact cr_iret X rfl rfl dX9_addTurbine_42
set_option maxHeartbeats 4000000 in
set_option maxRecDepth 100000 in
theorem b_X9_addTurbine_65 {Γ : cr_C} {E : cr_E} (X : cr_X Γ E cX9_addTurbine 6 RX9 wsX9_addTurbine rm_X9_addTurbine (some .int)) (S0 : cr_S) : ∀ (n : Nat) (x1 : Int32) (x2 : Int32) (x3 : Int32) (x4 : Int32) (x5 : Int32) (G : cr_G), cr_P Γ E 6 (cr_F Γ E (cr_vIG S0 9)) 0 0 (cr_us S0 9 G) 65 ([(0, .ref (E.2.1 9 0)), (1, .int x1), (2, .int x2), (3, .int x3), (4, .int x4), (5, .int x5)]) ([]) (s_X9_addTurbine_65 n x1 x2 x3 x4 x5 G) := by
  have hEK := X.2.2.2.2.2.2.1
  intro n
  induction n with
  | zero => intro x1 x2 x3 x4 x5 G; exact cr_none
  | succ n ih =>
    intro x1 x2 x3 x4 x5 G
    rw [s_X9_addTurbine_65]
    refine cr_iload X 5 rfl dX9_addTurbine_65 ?_
    refine cr_aload_n X 0 rfl dX9_addTurbine_67 ?_
    refine cr_get X ((cr_m0 E).at (cr_row S0 9 G 0) rfl) rfl i_X9_addTurbine_X9 0 (by decide) k_X9_addTurbine_2 rfl dX9_addTurbine_68 ?_
    refine cr_bipush X (70 : Int32) (by decide) dX9_addTurbine_71 ?_
    refine cr_ialdk X 70 (by decide) (by decide) ((cr_m1 E).at (cr_row S0 9 G 1) rfl) dX9_addTurbine_73 ?_
    refine cr_icmp_ge X 108 dX9_addTurbine_74 rfl ?_ ?_
    · refine cr_iload X 4 rfl dX9_addTurbine_108 ?_
      refine cr_if_eq X 119 dX9_addTurbine_110 rfl ?_ ?_
      · refine cr_aload_n X 0 rfl dX9_addTurbine_119 ?_
        refine cr_callV X (As := []) (rest := []) (c_X9_save Γ.2.1 E hEK S0 G) ((cr_m0 E).at (cr_row S0 9 G 0) rfl) rfl 0 gX9_addTurbine_X9_save rfl rfl rfl (by decide +kernel) ⟨Nat.le_of_ble_eq_true rfl, Nat.le_of_ble_eq_true rfl⟩ (by decide) rfl rfl (Nat.le_of_ble_eq_true rfl) dX9_addTurbine_120 (fun r120_6 => ?_)
        show cr_P Γ E 6 _ 0 0 (cr_us S0 9 r120_6) 123 ([(0, .ref (E.2.1 9 0)), (1, .int x1), (2, .int x2), (3, .int x3), (4, .int x4), (5, .int x5)]) ([]) _
        refine cr_aload_n X 0 rfl dX9_addTurbine_123 ?_
        refine cr_get X ((cr_m0 E).at (cr_row S0 9 r120_6 0) rfl) rfl i_X9_addTurbine_X9 0 (by decide) k_X9_addTurbine_2 rfl dX9_addTurbine_124 ?_
        refine cr_bipush X (70 : Int32) (by decide) dX9_addTurbine_127 ?_
        refine cr_ialdk X 70 (by decide) (by decide) ((cr_m1 E).at (cr_row S0 9 r120_6 1) rfl) dX9_addTurbine_129 ?_
        refine cr_istoreb X (fun v130_7 => [(5, .int v130_7), (0, .ref (E.2.1 9 0)), (1, .int x1), (2, .int x2), (3, .int x3), (4, .int x4)]) (fun _ => rfl) (by decide) dX9_addTurbine_130 (fun v130_7 => ?_)
        refine cr_aload_n X 1 rfl dX9_addTurbine_132 ?_
        refine cr_get X ((cr_m0 E).at (cr_row S0 9 r120_6 0) rfl) rfl i_X9_addTurbine_X9 0 (by decide) k_X9_addTurbine_2 rfl dX9_addTurbine_133 ?_
        refine cr_iconst X (0 : Int32) (by decide) dX9_addTurbine_136 ?_
        refine cr_iload X 0 rfl dX9_addTurbine_137 ?_
        refine cr_iadd X dX9_addTurbine_139 ?_
        refine cr_iload_n X 2 rfl dX9_addTurbine_140 ?_
        refine cr_iastG X (cr_m1 E) (fun _ _ => rfl) dX9_addTurbine_141 (fun G141_8 => ?_)
        refine cr_aload_n X 1 rfl dX9_addTurbine_142 ?_
        refine cr_get X ((cr_m0 E).at (cr_row S0 9 G141_8 0) rfl) rfl i_X9_addTurbine_X9 0 (by decide) k_X9_addTurbine_2 rfl dX9_addTurbine_143 ?_
        refine cr_bipush X (10 : Int32) (by decide) dX9_addTurbine_146 ?_
        refine cr_iload X 0 rfl dX9_addTurbine_148 ?_
        refine cr_iadd X dX9_addTurbine_150 ?_
        refine cr_iload_n X 3 rfl dX9_addTurbine_151 ?_
        refine cr_iastG X (cr_m1 E) (fun _ _ => rfl) dX9_addTurbine_152 (fun G152_9 => ?_)
        refine cr_aload_n X 1 rfl dX9_addTurbine_153 ?_
        refine cr_get X ((cr_m0 E).at (cr_row S0 9 G152_9 0) rfl) rfl i_X9_addTurbine_X9 0 (by decide) k_X9_addTurbine_2 rfl dX9_addTurbine_154 ?_
        refine cr_bipush X (20 : Int32) (by decide) dX9_addTurbine_157 ?_
        refine cr_iload X 0 rfl dX9_addTurbine_159 ?_
        refine cr_iadd X dX9_addTurbine_161 ?_
        refine cr_iload_n X 4 rfl dX9_addTurbine_162 ?_
        refine cr_iastG X (cr_m1 E) (fun _ _ => rfl) dX9_addTurbine_163 (fun G163_10 => ?_)
        refine cr_aload_n X 1 rfl dX9_addTurbine_164 ?_
        refine cr_get X ((cr_m0 E).at (cr_row S0 9 G163_10 0) rfl) rfl i_X9_addTurbine_X9 0 (by decide) k_X9_addTurbine_2 rfl dX9_addTurbine_165 ?_
        refine cr_bipush X (70 : Int32) (by decide) dX9_addTurbine_168 ?_
        refine cr_dup2 X rfl rfl dX9_addTurbine_170 ?_
        refine cr_ialdk X 70 (by decide) (by decide) ((cr_m1 E).at (cr_row S0 9 G163_10 1) rfl) dX9_addTurbine_171 ?_
        refine cr_iconst X (1 : Int32) (by decide) dX9_addTurbine_172 ?_
        refine cr_iadd X dX9_addTurbine_173 ?_
        refine cr_iastGk X 70 (cr_m1 E) (fun _ _ => rfl) (by decide) (by decide) dX9_addTurbine_174 (fun G174_11 => ?_)
        refine cr_iload X 0 rfl dX9_addTurbine_175 ?_
        exact cr_iret X rfl rfl dX9_addTurbine_177
      · refine cr_aload_n X 0 rfl dX9_addTurbine_113 ?_
        refine cr_iconst X (2 : Int32) (by decide) dX9_addTurbine_114 ?_
        refine cr_callV X (As := [.int ((2 : Int32))]) (rest := []) (c_X9_fails Γ.2.1 E hEK S0 G ((2 : Int32))) ((cr_m0 E).at (cr_row S0 9 G 0) rfl) rfl 1 gX9_addTurbine_X9_fails rfl rfl rfl (by decide +kernel) ⟨Nat.le_of_ble_eq_true rfl, Nat.le_of_ble_eq_true rfl⟩ (by decide) rfl rfl (Nat.le_of_ble_eq_true rfl) dX9_addTurbine_115 (fun r115_12 => ?_)
        show cr_P Γ E 6 _ 0 0 (cr_us S0 9 r115_12.2) 118 ([(0, .ref (E.2.1 9 0)), (1, .int x1), (2, .int x2), (3, .int x3), (4, .int x4), (5, .int x5)]) ([.int r115_12.1]) _
        exact cr_iret X rfl rfl dX9_addTurbine_118
    · refine cr_iload X 4 rfl dX9_addTurbine_77 ?_
      refine cr_if_ne X 95 dX9_addTurbine_79 rfl ?_ ?_
      · refine cr_iconst X (1 : Int32) (by decide) dX9_addTurbine_95 ?_
        refine cr_goto X 100 dX9_addTurbine_96 rfl ?_
        refine cr_istore X ([(4, .int ((1 : Int32))), (0, .ref (E.2.1 9 0)), (1, .int x1), (2, .int x2), (3, .int x3), (5, .int x5)]) rfl (by decide) dX9_addTurbine_100 ?_
        refine cr_iinc X (x5 + 1) (fun v102_13 => [(5, .int v102_13), (4, .int ((1 : Int32))), (0, .ref (E.2.1 9 0)), (1, .int x1), (2, .int x2), (3, .int x3)]) 5 rfl rfl (fun _ => rfl) (by decide) dX9_addTurbine_102 (fun v102_13 => ?_)
        refine cr_goto X 65 dX9_addTurbine_105 rfl ?_
        refine cr_sub (lv' := [(0, .ref (E.2.1 9 0)), (1, .int x1), (2, .int x2), (3, .int x3), (4, .int ((1 : Int32))), (5, .int v102_13)]) [2, 3, 4, 5, 1, 0] rfl ?_
        exact ih x1 x2 x3 ((1 : Int32)) v102_13 G
      · refine cr_aload_n X 0 rfl dX9_addTurbine_82 ?_
        refine cr_get X ((cr_m0 E).at (cr_row S0 9 G 0) rfl) rfl i_X9_addTurbine_X9 0 (by decide) k_X9_addTurbine_2 rfl dX9_addTurbine_83 ?_
        refine cr_iconst X (0 : Int32) (by decide) dX9_addTurbine_86 ?_
        refine cr_iload X 5 rfl dX9_addTurbine_87 ?_
        refine cr_iadd X dX9_addTurbine_89 ?_
        refine cr_iald X ((cr_m1 E).at (cr_row S0 9 G 1) rfl) dX9_addTurbine_90 ?_
        refine cr_iload_n X 1 rfl dX9_addTurbine_91 ?_
        refine cr_icmp_ne X 99 dX9_addTurbine_92 rfl ?_ ?_
        · refine cr_iconst X (0 : Int32) (by decide) dX9_addTurbine_99 ?_
          refine cr_istore X ([(4, .int ((0 : Int32))), (0, .ref (E.2.1 9 0)), (1, .int x1), (2, .int x2), (3, .int x3), (5, .int x5)]) rfl (by decide) dX9_addTurbine_100 ?_
          refine cr_iinc X (x5 + 1) (fun v102_14 => [(5, .int v102_14), (4, .int ((0 : Int32))), (0, .ref (E.2.1 9 0)), (1, .int x1), (2, .int x2), (3, .int x3)]) 5 rfl rfl (fun _ => rfl) (by decide) dX9_addTurbine_102 (fun v102_14 => ?_)
          refine cr_goto X 65 dX9_addTurbine_105 rfl ?_
          refine cr_sub (lv' := [(0, .ref (E.2.1 9 0)), (1, .int x1), (2, .int x2), (3, .int x3), (4, .int ((0 : Int32))), (5, .int v102_14)]) [2, 3, 4, 5, 1, 0] rfl ?_
          exact ih x1 x2 x3 ((0 : Int32)) v102_14 G
        · refine cr_iconst X (1 : Int32) (by decide) dX9_addTurbine_95 ?_
          refine cr_goto X 100 dX9_addTurbine_96 rfl ?_
          refine cr_istore X ([(4, .int ((1 : Int32))), (0, .ref (E.2.1 9 0)), (1, .int x1), (2, .int x2), (3, .int x3), (5, .int x5)]) rfl (by decide) dX9_addTurbine_100 ?_
          refine cr_iinc X (x5 + 1) (fun v102_15 => [(5, .int v102_15), (4, .int ((1 : Int32))), (0, .ref (E.2.1 9 0)), (1, .int x1), (2, .int x2), (3, .int x3)]) 5 rfl rfl (fun _ => rfl) (by decide) dX9_addTurbine_102 (fun v102_15 => ?_)
          refine cr_goto X 65 dX9_addTurbine_105 rfl ?_
          refine cr_sub (lv' := [(0, .ref (E.2.1 9 0)), (1, .int x1), (2, .int x2), (3, .int x3), (4, .int ((1 : Int32))), (5, .int v102_15)]) [2, 3, 4, 5, 1, 0] rfl ?_
          exact ih x1 x2 x3 ((1 : Int32)) v102_15 G
set_option maxHeartbeats 4000000 in
set_option maxRecDepth 100000 in
theorem c_X9_addTurbine (l : Launch) (E : cr_E) (hEK : cr_EK E) (S0 : cr_S) (G : cr_G) (p1 : Int32) (p2 : Int32) (p3 : Int32) : cr_M l E yX9_addTurbine wsX9_addTurbine rm_X9_addTurbine [.ref (E.2.1 9 0), .int p1, .int p2, .int p3] (cr_us S0 9 G) (cr_vIG S0 9) (s_X9_addTurbine p1 p2 p3 G) := by
  refine cr_enter (cc := cX9_addTurbine) (nL := 6) (rt := (some .int)) hEK (by decide) rfl (Nat.le_of_ble_eq_true rfl) (fun Γ hΓ X => ?_)
  subst hΓ
  have X : cr_X Γ E cX9_addTurbine 6 RX9 wsX9_addTurbine rm_X9_addTurbine (some .int) := X
  unfold s_X9_addTurbine
  show cr_P Γ E 6 _ 0 0 (cr_us S0 9 G) 0 ([(0, .ref (E.2.1 9 0)), (1, .int p1), (2, .int p2), (3, .int p3)]) [] _
  refine cr_aload_n X 0 rfl dX9_addTurbine_0 ?_
  refine cr_iconst X (0 : Int32) (by decide) dX9_addTurbine_1 ?_
  refine cr_putG X (cr_m0 E) 7 rfl rfl rfl i_X9_addTurbine_X9 tyX9 tyX9_ok nmX9 (by decide) k_X9_addTurbine_1 rfl rfl rfl (Nat.le_of_ble_eq_true rfl) dX9_addTurbine_2 (fun G2_1 => ?_)
  refine cr_iload_n X 1 rfl dX9_addTurbine_5 ?_
  refine cr_iconst X (1 : Int32) (by decide) dX9_addTurbine_6 ?_
  refine cr_bipush X (99 : Int32) (by decide) dX9_addTurbine_7 ?_
  refine cr_callS X (As := [.int p1, .int ((1 : Int32)), .int ((99 : Int32))]) (rest := []) (c_X9_within Γ.2.1 E hEK ((cr_us S0 9 G2_1)) p1 ((1 : Int32)) ((99 : Int32))) 3 gX9_addTurbine_X9_within rfl rfl rfl (by decide +kernel) ⟨Nat.le_of_ble_eq_true rfl, Nat.le_of_ble_eq_true rfl⟩ (by decide) rfl rfl (Nat.le_of_ble_eq_true rfl) dX9_addTurbine_9 (fun r9_2 => ?_)
  show cr_P Γ E 6 _ 0 0 (cr_us S0 9 G2_1) 12 ([(0, .ref (E.2.1 9 0)), (1, .int p1), (2, .int p2), (3, .int p3)]) ([.int (cr_b r9_2)]) _
  refine cr_ifb_eq X 37 dX9_addTurbine_12 rfl ?_ ?_
  · refine cr_sub (lv' := [(0, .ref (E.2.1 9 0))]) [0] rfl ?_
    exact b_X9_addTurbine_37 X S0 G2_1
  · refine cr_iload_n X 2 rfl dX9_addTurbine_15 ?_
    refine cr_bipush X (50 : Int32) (by decide) dX9_addTurbine_16 ?_
    refine cr_sipush X (160 : Int32) (by decide) dX9_addTurbine_18 ?_
    refine cr_callS X (As := [.int p2, .int ((50 : Int32)), .int ((160 : Int32))]) (rest := []) (c_X9_within Γ.2.1 E hEK ((cr_us S0 9 G2_1)) p2 ((50 : Int32)) ((160 : Int32))) 3 gX9_addTurbine_X9_within rfl rfl rfl (by decide +kernel) ⟨Nat.le_of_ble_eq_true rfl, Nat.le_of_ble_eq_true rfl⟩ (by decide) rfl rfl (Nat.le_of_ble_eq_true rfl) dX9_addTurbine_21 (fun r21_3 => ?_)
    show cr_P Γ E 6 _ 0 0 (cr_us S0 9 G2_1) 24 ([(0, .ref (E.2.1 9 0)), (1, .int p1), (2, .int p2), (3, .int p3)]) ([.int (cr_b r21_3)]) _
    refine cr_ifb_eq X 37 dX9_addTurbine_24 rfl ?_ ?_
    · refine cr_sub (lv' := [(0, .ref (E.2.1 9 0))]) [0] rfl ?_
      exact b_X9_addTurbine_37 X S0 G2_1
    · refine cr_iload_n X 3 rfl dX9_addTurbine_27 ?_
      refine cr_iconst X (1 : Int32) (by decide) dX9_addTurbine_28 ?_
      refine cr_bipush X (50 : Int32) (by decide) dX9_addTurbine_29 ?_
      refine cr_callS X (As := [.int p3, .int ((1 : Int32)), .int ((50 : Int32))]) (rest := []) (c_X9_within Γ.2.1 E hEK ((cr_us S0 9 G2_1)) p3 ((1 : Int32)) ((50 : Int32))) 3 gX9_addTurbine_X9_within rfl rfl rfl (by decide +kernel) ⟨Nat.le_of_ble_eq_true rfl, Nat.le_of_ble_eq_true rfl⟩ (by decide) rfl rfl (Nat.le_of_ble_eq_true rfl) dX9_addTurbine_31 (fun r31_4 => ?_)
      show cr_P Γ E 6 _ 0 0 (cr_us S0 9 G2_1) 34 ([(0, .ref (E.2.1 9 0)), (1, .int p1), (2, .int p2), (3, .int p3)]) ([.int (cr_b r31_4)]) _
      refine cr_ifb_ne X 43 dX9_addTurbine_34 rfl ?_ ?_
      · refine cr_aload_n X 0 rfl dX9_addTurbine_43 ?_
        refine cr_get X ((cr_m0 E).at (cr_row S0 9 G2_1 0) rfl) rfl i_X9_addTurbine_X9 0 (by decide) k_X9_addTurbine_2 rfl dX9_addTurbine_44 ?_
        refine cr_bipush X (70 : Int32) (by decide) dX9_addTurbine_47 ?_
        refine cr_ialdk X 70 (by decide) (by decide) ((cr_m1 E).at (cr_row S0 9 G2_1 1) rfl) dX9_addTurbine_49 ?_
        refine cr_bipush X (10 : Int32) (by decide) dX9_addTurbine_50 ?_
        refine cr_icmp_ne X 59 dX9_addTurbine_52 rfl ?_ ?_
        · refine cr_iconst X (0 : Int32) (by decide) dX9_addTurbine_59 ?_
          refine cr_istore X ([(4, .int ((0 : Int32))), (0, .ref (E.2.1 9 0)), (1, .int p1), (2, .int p2), (3, .int p3)]) rfl (by decide) dX9_addTurbine_60 ?_
          refine cr_iconst X (0 : Int32) (by decide) dX9_addTurbine_62 ?_
          refine cr_istore X ([(5, .int ((0 : Int32))), (4, .int ((0 : Int32))), (0, .ref (E.2.1 9 0)), (1, .int p1), (2, .int p2), (3, .int p3)]) rfl (by decide) dX9_addTurbine_63 ?_
          refine cr_sub (lv' := [(0, .ref (E.2.1 9 0)), (1, .int p1), (2, .int p2), (3, .int p3), (4, .int ((0 : Int32))), (5, .int ((0 : Int32)))]) [2, 3, 4, 5, 1, 0] rfl ?_
          exact b_X9_addTurbine_65 X S0 1200 p1 p2 p3 ((0 : Int32)) ((0 : Int32)) G2_1
        · refine cr_iconst X (1 : Int32) (by decide) dX9_addTurbine_55 ?_
          refine cr_goto X 60 dX9_addTurbine_56 rfl ?_
          refine cr_istore X ([(4, .int ((1 : Int32))), (0, .ref (E.2.1 9 0)), (1, .int p1), (2, .int p2), (3, .int p3)]) rfl (by decide) dX9_addTurbine_60 ?_
          refine cr_iconst X (0 : Int32) (by decide) dX9_addTurbine_62 ?_
          refine cr_istore X ([(5, .int ((0 : Int32))), (4, .int ((1 : Int32))), (0, .ref (E.2.1 9 0)), (1, .int p1), (2, .int p2), (3, .int p3)]) rfl (by decide) dX9_addTurbine_63 ?_
          refine cr_sub (lv' := [(0, .ref (E.2.1 9 0)), (1, .int p1), (2, .int p2), (3, .int p3), (4, .int ((1 : Int32))), (5, .int ((0 : Int32)))]) [2, 3, 4, 5, 1, 0] rfl ?_
          exact b_X9_addTurbine_65 X S0 1200 p1 p2 p3 ((1 : Int32)) ((0 : Int32)) G2_1
      · refine cr_sub (lv' := [(0, .ref (E.2.1 9 0))]) [0] rfl ?_
        exact b_X9_addTurbine_37 X S0 G2_1
theorem c_X9_addTurbine_S (l : Launch) (E : cr_E) (hEK : cr_EK E) (S : cr_S) (p1 : Int32) (p2 : Int32) (p3 : Int32) : cr_M l E yX9_addTurbine wsX9_addTurbine rm_X9_addTurbine [.ref (E.2.1 9 0), .int p1, .int p2, .int p3] S (cr_vIG S 9) (s_X9_addTurbine  p1 p2 p3 (S.1 9)) := by
  have h := c_X9_addTurbine l E hEK S (S.1 9) p1 p2 p3
  rw [cr_us_self] at h
  exact h
theorem k_X9_keep_1 : (Cond.fieldLink RX9 13 "CraneCampaignModel" "aside" "[I") ∈ wsX9_keep := List.mem_of_getElem? (i := 1) (by rfl)
theorem k_X9_keep_2 : (Cond.fieldLink RX9 7 "CraneCampaignModel" "z" "[I") ∈ wsX9_keep := List.mem_of_getElem? (i := 2) (by rfl)
theorem i_X9_keep_X9 : ∀ w ∈ wsX90, w ∈ wsX9_keep := by decide +kernel
abbrev rm_X9_keep : Room := { frames := 0, cells := 0, slots := 0, locals := 0 }
set_option maxHeartbeats 4000000 in
set_option maxRecDepth 100000 in
theorem b_X9_keep_2 {Γ : cr_C} {E : cr_E} (X : cr_X Γ E cX9_keep 2 RX9 wsX9_keep rm_X9_keep none) (S0 : cr_S) : ∀ (n : Nat) (x1 : Int32) (G : cr_G), cr_P Γ E 2 (cr_F Γ E (cr_vVG S0 9)) 0 0 (cr_us S0 9 G) 2 ([(0, .ref (E.2.1 9 0)), (1, .int x1)]) ([]) (s_X9_keep_2 n x1 G) := by
  have hEK := X.2.2.2.2.2.2.1
  intro n
  induction n with
  | zero => intro x1 G; exact cr_none
  | succ n ih =>
    intro x1 G
    rw [s_X9_keep_2]
    refine cr_iload_n X 1 rfl dX9_keep_2 ?_
    refine cr_sipush X (184 : Int32) (by decide) dX9_keep_3 ?_
    refine cr_icmp_ge X 27 dX9_keep_6 rfl ?_ ?_
    · exact cr_vret X rfl rfl dX9_keep_27
    · refine cr_aload_n X 0 rfl dX9_keep_9 ?_
      refine cr_get X ((cr_m0 E).at (cr_row S0 9 G 0) rfl) rfl i_X9_keep_X9 1 (by decide) k_X9_keep_1 rfl dX9_keep_10 ?_
      refine cr_iload_n X 1 rfl dX9_keep_13 ?_
      refine cr_aload_n X 0 rfl dX9_keep_14 ?_
      refine cr_get X ((cr_m0 E).at (cr_row S0 9 G 0) rfl) rfl i_X9_keep_X9 0 (by decide) k_X9_keep_2 rfl dX9_keep_15 ?_
      refine cr_iload_n X 1 rfl dX9_keep_18 ?_
      refine cr_iald X ((cr_m1 E).at (cr_row S0 9 G 1) rfl) dX9_keep_19 ?_
      refine cr_iastG X (cr_m2 E) (fun _ _ => rfl) dX9_keep_20 (fun G20_1 => ?_)
      refine cr_iinc X (x1 + 1) (fun v21_2 => [(1, .int v21_2), (0, .ref (E.2.1 9 0))]) 1 rfl rfl (fun _ => rfl) (by decide) dX9_keep_21 (fun v21_2 => ?_)
      refine cr_goto X 2 dX9_keep_24 rfl ?_
      refine cr_sub (lv' := [(0, .ref (E.2.1 9 0)), (1, .int v21_2)]) [1, 0] rfl ?_
      exact ih v21_2 G20_1
set_option maxHeartbeats 4000000 in
set_option maxRecDepth 100000 in
theorem c_X9_keep (l : Launch) (E : cr_E) (hEK : cr_EK E) (S0 : cr_S) (G : cr_G) : cr_M l E yX9_keep wsX9_keep rm_X9_keep [.ref (E.2.1 9 0)] (cr_us S0 9 G) (cr_vVG S0 9) (s_X9_keep G) := by
  refine cr_enter (cc := cX9_keep) (nL := 2) (rt := none) hEK (by decide) rfl (Nat.le_of_ble_eq_true rfl) (fun Γ hΓ X => ?_)
  subst hΓ
  have X : cr_X Γ E cX9_keep 2 RX9 wsX9_keep rm_X9_keep none := X
  unfold s_X9_keep
  show cr_P Γ E 2 _ 0 0 (cr_us S0 9 G) 0 ([(0, .ref (E.2.1 9 0))]) [] _
  refine cr_iconst X (0 : Int32) (by decide) dX9_keep_0 ?_
  refine cr_istore_n X ([(1, .int ((0 : Int32))), (0, .ref (E.2.1 9 0))]) rfl (by decide) dX9_keep_1 ?_
  refine cr_sub (lv' := [(0, .ref (E.2.1 9 0)), (1, .int ((0 : Int32)))]) [1, 0] rfl ?_
  exact b_X9_keep_2 X S0 1200 ((0 : Int32)) G
theorem c_X9_keep_S (l : Launch) (E : cr_E) (hEK : cr_EK E) (S : cr_S) : cr_M l E yX9_keep wsX9_keep rm_X9_keep [.ref (E.2.1 9 0)] S (cr_vVG S 9) (s_X9_keep   (S.1 9)) := by
  have h := c_X9_keep l E hEK S (S.1 9)
  rw [cr_us_self] at h
  exact h
theorem k_X9_unload_1 : (Cond.fieldLink RX9 7 "CraneCampaignModel" "z" "[I") ∈ wsX9_unload := List.mem_of_getElem? (i := 1) (by rfl)
theorem i_X9_unload_X9 : ∀ w ∈ wsX90, w ∈ wsX9_unload := by decide +kernel
abbrev rm_X9_unload : Room := { frames := 0, cells := 0, slots := 0, locals := 0 }
set_option maxHeartbeats 4000000 in
set_option maxRecDepth 100000 in
theorem b_X9_unload_50 {Γ : cr_C} {E : cr_E} (X : cr_X Γ E cX9_unload 4 RX9 wsX9_unload rm_X9_unload none) (S0 : cr_S) (k10 : Int32 → Int32 → cr_G → Option cr_G) (hk10 : ∀ (x1 : Int32) (x2 : Int32) (G : cr_G), cr_P Γ E 4 (cr_F Γ E (cr_vVG S0 9)) 0 0 (cr_us S0 9 G) 10 ([(0, .ref (E.2.1 9 0)), (1, .int x1), (2, .int x2)]) [] (k10 x1 x2 G)) (x1 : Int32) (x2 : Int32) (y0 : Int32) (G : cr_G) : cr_P Γ E 4 (cr_F Γ E (cr_vVG S0 9)) 0 0 (cr_us S0 9 G) 50 ([(0, .ref (E.2.1 9 0)), (1, .int x1), (2, .int x2)]) ([.int y0]) (s_X9_unload_50 k10 x1 x2 y0 G) := by
  have hEK := X.2.2.2.2.2.2.1
  unfold s_X9_unload_50
  refine cr_istore_n X ([(3, .int y0), (0, .ref (E.2.1 9 0)), (1, .int x1), (2, .int x2)]) rfl (by decide) dX9_unload_50 ?_
  refine cr_aload_n X 1 rfl dX9_unload_51 ?_
  refine cr_get X ((cr_m0 E).at (cr_row S0 9 G 0) rfl) rfl i_X9_unload_X9 0 (by decide) k_X9_unload_1 rfl dX9_unload_52 ?_
  refine cr_sipush X (167 : Int32) (by decide) dX9_unload_55 ?_
  refine cr_iload_n X 3 rfl dX9_unload_58 ?_
  refine cr_iadd X dX9_unload_59 ?_
  refine cr_dup2 X rfl rfl dX9_unload_60 ?_
  refine cr_iald X ((cr_m1 E).at (cr_row S0 9 G 1) rfl) dX9_unload_61 ?_
  refine cr_iload_n X 0 rfl dX9_unload_62 ?_
  refine cr_isub X dX9_unload_63 ?_
  refine cr_iastG X (cr_m1 E) (fun _ _ => rfl) dX9_unload_64 (fun G64_2 => ?_)
  refine cr_iload_n X 2 rfl dX9_unload_65 ?_
  refine cr_iload_n X 0 rfl dX9_unload_66 ?_
  refine cr_isub X dX9_unload_67 ?_
  refine cr_istore_nb X (fun v68_3 => [(1, .int v68_3), (3, .int y0), (0, .ref (E.2.1 9 0)), (2, .int x2)]) (fun _ => rfl) (by decide) dX9_unload_68 (fun v68_3 => ?_)
  refine cr_iinc X (x2 + 1) (fun v69_4 => [(2, .int v69_4), (1, .int v68_3), (3, .int y0), (0, .ref (E.2.1 9 0))]) 3 rfl rfl (fun _ => rfl) (by decide) dX9_unload_69 (fun v69_4 => ?_)
  refine cr_goto X 10 dX9_unload_72 rfl ?_
  refine cr_sub (lv' := [(0, .ref (E.2.1 9 0)), (1, .int v68_3), (2, .int v69_4)]) [3, 1, 0] rfl ?_
  exact hk10 v68_3 v69_4 G64_2
set_option maxHeartbeats 4000000 in
set_option maxRecDepth 100000 in
theorem b_X9_unload_10 {Γ : cr_C} {E : cr_E} (X : cr_X Γ E cX9_unload 4 RX9 wsX9_unload rm_X9_unload none) (S0 : cr_S) : ∀ (n : Nat) (x1 : Int32) (x2 : Int32) (G : cr_G), cr_P Γ E 4 (cr_F Γ E (cr_vVG S0 9)) 0 0 (cr_us S0 9 G) 10 ([(0, .ref (E.2.1 9 0)), (1, .int x1), (2, .int x2)]) ([]) (s_X9_unload_10 n x1 x2 G) := by
  have hEK := X.2.2.2.2.2.2.1
  intro n
  induction n with
  | zero => intro x1 x2 G; exact cr_none
  | succ n ih =>
    intro x1 x2 G
    rw [s_X9_unload_10]
    refine cr_iload_n X 2 rfl dX9_unload_10 ?_
    refine cr_aload_n X 0 rfl dX9_unload_11 ?_
    refine cr_get X ((cr_m0 E).at (cr_row S0 9 G 0) rfl) rfl i_X9_unload_X9 0 (by decide) k_X9_unload_1 rfl dX9_unload_12 ?_
    refine cr_sipush X (156 : Int32) (by decide) dX9_unload_15 ?_
    refine cr_ialdk X 156 (by decide) (by decide) ((cr_m1 E).at (cr_row S0 9 G 1) rfl) dX9_unload_18 ?_
    refine cr_icmp_ge X 75 dX9_unload_19 rfl ?_ ?_
    · exact cr_vret X rfl rfl dX9_unload_75
    · refine cr_aload_n X 0 rfl dX9_unload_22 ?_
      refine cr_get X ((cr_m0 E).at (cr_row S0 9 G 0) rfl) rfl i_X9_unload_X9 0 (by decide) k_X9_unload_1 rfl dX9_unload_23 ?_
      refine cr_sipush X (167 : Int32) (by decide) dX9_unload_26 ?_
      refine cr_iload_n X 2 rfl dX9_unload_29 ?_
      refine cr_iadd X dX9_unload_30 ?_
      refine cr_iald X ((cr_m1 E).at (cr_row S0 9 G 1) rfl) dX9_unload_31 ?_
      refine cr_iload_n X 1 rfl dX9_unload_32 ?_
      refine cr_icmp_ge X 49 dX9_unload_33 rfl ?_ ?_
      · refine cr_iload_n X 1 rfl dX9_unload_49 ?_
        refine cr_sub (lv' := [(0, .ref (E.2.1 9 0)), (1, .int x1), (2, .int x2)]) [0, 1, 2] rfl ?_
        exact b_X9_unload_50 X S0 (fun x1a x2a Ga => s_X9_unload_10 n x1a x2a Ga) ih x1 x2 x1 G
      · refine cr_aload_n X 0 rfl dX9_unload_36 ?_
        refine cr_get X ((cr_m0 E).at (cr_row S0 9 G 0) rfl) rfl i_X9_unload_X9 0 (by decide) k_X9_unload_1 rfl dX9_unload_37 ?_
        refine cr_sipush X (167 : Int32) (by decide) dX9_unload_40 ?_
        refine cr_iload_n X 2 rfl dX9_unload_43 ?_
        refine cr_iadd X dX9_unload_44 ?_
        refine cr_iald X ((cr_m1 E).at (cr_row S0 9 G 1) rfl) dX9_unload_45 ?_
        refine cr_goto X 50 dX9_unload_46 rfl ?_
        refine cr_sub (lv' := [(0, .ref (E.2.1 9 0)), (1, .int x1), (2, .int x2)]) [0, 1, 2] rfl ?_
        exact b_X9_unload_50 X S0 (fun x1a x2a Ga => s_X9_unload_10 n x1a x2a Ga) ih x1 x2 (((G 1) (((167 : Int32) + x2)).toNatClampNeg)) G
set_option maxHeartbeats 4000000 in
set_option maxRecDepth 100000 in
theorem c_X9_unload (l : Launch) (E : cr_E) (hEK : cr_EK E) (S0 : cr_S) (G : cr_G) : cr_M l E yX9_unload wsX9_unload rm_X9_unload [.ref (E.2.1 9 0)] (cr_us S0 9 G) (cr_vVG S0 9) (s_X9_unload G) := by
  refine cr_enter (cc := cX9_unload) (nL := 4) (rt := none) hEK (by decide) rfl (Nat.le_of_ble_eq_true rfl) (fun Γ hΓ X => ?_)
  subst hΓ
  have X : cr_X Γ E cX9_unload 4 RX9 wsX9_unload rm_X9_unload none := X
  unfold s_X9_unload
  show cr_P Γ E 4 _ 0 0 (cr_us S0 9 G) 0 ([(0, .ref (E.2.1 9 0))]) [] _
  refine cr_aload_n X 0 rfl dX9_unload_0 ?_
  refine cr_get X ((cr_m0 E).at (cr_row S0 9 G 0) rfl) rfl i_X9_unload_X9 0 (by decide) k_X9_unload_1 rfl dX9_unload_1 ?_
  refine cr_bipush X (76 : Int32) (by decide) dX9_unload_4 ?_
  refine cr_ialdk X 76 (by decide) (by decide) ((cr_m1 E).at (cr_row S0 9 G 1) rfl) dX9_unload_6 ?_
  refine cr_istore_nb X (fun v7_1 => [(1, .int v7_1), (0, .ref (E.2.1 9 0))]) (fun _ => rfl) (by decide) dX9_unload_7 (fun v7_1 => ?_)
  refine cr_iconst X (0 : Int32) (by decide) dX9_unload_8 ?_
  refine cr_istore_n X ([(2, .int ((0 : Int32))), (1, .int v7_1), (0, .ref (E.2.1 9 0))]) rfl (by decide) dX9_unload_9 ?_
  refine cr_sub (lv' := [(0, .ref (E.2.1 9 0)), (1, .int v7_1), (2, .int ((0 : Int32)))]) [2, 1, 0] rfl ?_
  exact b_X9_unload_10 X S0 1200 v7_1 ((0 : Int32)) G
theorem c_X9_unload_S (l : Launch) (E : cr_E) (hEK : cr_EK E) (S : cr_S) : cr_M l E yX9_unload wsX9_unload rm_X9_unload [.ref (E.2.1 9 0)] S (cr_vVG S 9) (s_X9_unload   (S.1 9)) := by
  have h := c_X9_unload l E hEK S (S.1 9)
  rw [cr_us_self] at h
  exact h
theorem k_X9_forget_1 : (Cond.fieldLink RX9 7 "CraneCampaignModel" "z" "[I") ∈ wsX9_forget := List.mem_of_getElem? (i := 1) (by rfl)
theorem i_X9_forget_X9 : ∀ w ∈ wsX90, w ∈ wsX9_forget := by decide +kernel
abbrev rm_X9_forget : Room := { frames := 0, cells := 0, slots := 0, locals := 0 }
set_option maxHeartbeats 4000000 in
set_option maxRecDepth 100000 in
theorem c_X9_forget (l : Launch) (E : cr_E) (hEK : cr_EK E) (S0 : cr_S) (G : cr_G) : cr_M l E yX9_forget wsX9_forget rm_X9_forget [.ref (E.2.1 9 0)] (cr_us S0 9 G) (cr_vVG S0 9) (s_X9_forget G) := by
  refine cr_enter (cc := cX9_forget) (nL := 1) (rt := none) hEK (by decide) rfl (Nat.le_of_ble_eq_true rfl) (fun Γ hΓ X => ?_)
  subst hΓ
  have X : cr_X Γ E cX9_forget 1 RX9 wsX9_forget rm_X9_forget none := X
  unfold s_X9_forget
  show cr_P Γ E 1 _ 0 0 (cr_us S0 9 G) 0 ([(0, .ref (E.2.1 9 0))]) [] _
  refine cr_aload_n X 0 rfl dX9_forget_0 ?_
  refine cr_get X ((cr_m0 E).at (cr_row S0 9 G 0) rfl) rfl i_X9_forget_X9 0 (by decide) k_X9_forget_1 rfl dX9_forget_1 ?_
  refine cr_sipush X (143 : Int32) (by decide) dX9_forget_4 ?_
  refine cr_iconst X (0 : Int32) (by decide) dX9_forget_7 ?_
  refine cr_iastGk X 143 (cr_m1 E) (fun _ _ => rfl) (by decide) (by decide) dX9_forget_8 (fun G8_1 => ?_)
  refine cr_aload_n X 0 rfl dX9_forget_9 ?_
  refine cr_get X ((cr_m0 E).at (cr_row S0 9 G8_1 0) rfl) rfl i_X9_forget_X9 0 (by decide) k_X9_forget_1 rfl dX9_forget_10 ?_
  refine cr_sipush X (144 : Int32) (by decide) dX9_forget_13 ?_
  refine cr_iconst X (-1 : Int32) (by decide) dX9_forget_16 ?_
  refine cr_iastGk X 144 (cr_m1 E) (fun _ _ => rfl) (by decide) (by decide) dX9_forget_17 (fun G17_2 => ?_)
  exact cr_vret X rfl rfl dX9_forget_18
theorem c_X9_forget_S (l : Launch) (E : cr_E) (hEK : cr_EK E) (S : cr_S) : cr_M l E yX9_forget wsX9_forget rm_X9_forget [.ref (E.2.1 9 0)] S (cr_vVG S 9) (s_X9_forget   (S.1 9)) := by
  have h := c_X9_forget l E hEK S (S.1 9)
  rw [cr_us_self] at h
  exact h
theorem k_X9_takeOff_1 : (Cond.fieldLink RX9 7 "CraneCampaignModel" "z" "[I") ∈ wsX9_takeOff := List.mem_of_getElem? (i := 1) (by rfl)
theorem i_X9_takeOff_X9 : ∀ w ∈ wsX90, w ∈ wsX9_takeOff := by decide +kernel
abbrev rm_X9_takeOff : Room := { frames := 0, cells := 0, slots := 0, locals := 0 }
set_option maxHeartbeats 4000000 in
set_option maxRecDepth 100000 in
theorem b_X9_takeOff_14 {Γ : cr_C} {E : cr_E} (X : cr_X Γ E cX9_takeOff 3 RX9 wsX9_takeOff rm_X9_takeOff none) (S0 : cr_S) : ∀ (n : Nat) (x2 : Int32) (G : cr_G), cr_P Γ E 3 (cr_F Γ E (cr_vVG S0 9)) 0 0 (cr_us S0 9 G) 14 ([(0, .ref (E.2.1 9 0)), (2, .int x2)]) ([]) (s_X9_takeOff_14 n x2 G) := by
  have hEK := X.2.2.2.2.2.2.1
  intro n
  induction n with
  | zero => intro x2 G; exact cr_none
  | succ n ih =>
    intro x2 G
    rw [s_X9_takeOff_14]
    refine cr_iload_n X 1 rfl dX9_takeOff_14 ?_
    refine cr_aload_n X 0 rfl dX9_takeOff_15 ?_
    refine cr_get X ((cr_m0 E).at (cr_row S0 9 G 0) rfl) rfl i_X9_takeOff_X9 0 (by decide) k_X9_takeOff_1 rfl dX9_takeOff_16 ?_
    refine cr_sipush X (145 : Int32) (by decide) dX9_takeOff_19 ?_
    refine cr_ialdk X 145 (by decide) (by decide) ((cr_m1 E).at (cr_row S0 9 G 1) rfl) dX9_takeOff_22 ?_
    refine cr_icmp_ge X 54 dX9_takeOff_23 rfl ?_ ?_
    · exact cr_vret X rfl rfl dX9_takeOff_54
    · refine cr_aload_n X 0 rfl dX9_takeOff_26 ?_
      refine cr_get X ((cr_m0 E).at (cr_row S0 9 G 0) rfl) rfl i_X9_takeOff_X9 0 (by decide) k_X9_takeOff_1 rfl dX9_takeOff_27 ?_
      refine cr_sipush X (146 : Int32) (by decide) dX9_takeOff_30 ?_
      refine cr_iload_n X 1 rfl dX9_takeOff_33 ?_
      refine cr_iadd X dX9_takeOff_34 ?_
      refine cr_aload_n X 0 rfl dX9_takeOff_35 ?_
      refine cr_get X ((cr_m0 E).at (cr_row S0 9 G 0) rfl) rfl i_X9_takeOff_X9 0 (by decide) k_X9_takeOff_1 rfl dX9_takeOff_36 ?_
      refine cr_sipush X (146 : Int32) (by decide) dX9_takeOff_39 ?_
      refine cr_iload_n X 1 rfl dX9_takeOff_42 ?_
      refine cr_iadd X dX9_takeOff_43 ?_
      refine cr_iconst X (1 : Int32) (by decide) dX9_takeOff_44 ?_
      refine cr_iadd X dX9_takeOff_45 ?_
      refine cr_iald X ((cr_m1 E).at (cr_row S0 9 G 1) rfl) dX9_takeOff_46 ?_
      refine cr_iastG X (cr_m1 E) (fun _ _ => rfl) dX9_takeOff_47 (fun G47_2 => ?_)
      refine cr_iinc X (x2 + 1) (fun v48_3 => [(2, .int v48_3), (0, .ref (E.2.1 9 0))]) 1 rfl rfl (fun _ => rfl) (by decide) dX9_takeOff_48 (fun v48_3 => ?_)
      refine cr_goto X 14 dX9_takeOff_51 rfl ?_
      refine cr_sub (lv' := [(0, .ref (E.2.1 9 0)), (2, .int v48_3)]) [1, 0] rfl ?_
      exact ih v48_3 G47_2
set_option maxHeartbeats 4000000 in
set_option maxRecDepth 100000 in
theorem c_X9_takeOff (l : Launch) (E : cr_E) (hEK : cr_EK E) (S0 : cr_S) (G : cr_G) (p1 : Int32) : cr_M l E yX9_takeOff wsX9_takeOff rm_X9_takeOff [.ref (E.2.1 9 0), .int p1] (cr_us S0 9 G) (cr_vVG S0 9) (s_X9_takeOff p1 G) := by
  refine cr_enter (cc := cX9_takeOff) (nL := 3) (rt := none) hEK (by decide) rfl (Nat.le_of_ble_eq_true rfl) (fun Γ hΓ X => ?_)
  subst hΓ
  have X : cr_X Γ E cX9_takeOff 3 RX9 wsX9_takeOff rm_X9_takeOff none := X
  unfold s_X9_takeOff
  show cr_P Γ E 3 _ 0 0 (cr_us S0 9 G) 0 ([(0, .ref (E.2.1 9 0)), (1, .int p1)]) [] _
  refine cr_aload_n X 0 rfl dX9_takeOff_0 ?_
  refine cr_get X ((cr_m0 E).at (cr_row S0 9 G 0) rfl) rfl i_X9_takeOff_X9 0 (by decide) k_X9_takeOff_1 rfl dX9_takeOff_1 ?_
  refine cr_sipush X (145 : Int32) (by decide) dX9_takeOff_4 ?_
  refine cr_dup2 X rfl rfl dX9_takeOff_7 ?_
  refine cr_ialdk X 145 (by decide) (by decide) ((cr_m1 E).at (cr_row S0 9 G 1) rfl) dX9_takeOff_8 ?_
  refine cr_iconst X (1 : Int32) (by decide) dX9_takeOff_9 ?_
  refine cr_isub X dX9_takeOff_10 ?_
  refine cr_iastGk X 145 (cr_m1 E) (fun _ _ => rfl) (by decide) (by decide) dX9_takeOff_11 (fun G11_1 => ?_)
  refine cr_iload_n X 1 rfl dX9_takeOff_12 ?_
  refine cr_istore_n X ([(2, .int p1), (0, .ref (E.2.1 9 0)), (1, .int p1)]) rfl (by decide) dX9_takeOff_13 ?_
  refine cr_sub (lv' := [(0, .ref (E.2.1 9 0)), (2, .int p1)]) [1, 0] rfl ?_
  exact b_X9_takeOff_14 X S0 1200 p1 G11_1
theorem c_X9_takeOff_S (l : Launch) (E : cr_E) (hEK : cr_EK E) (S : cr_S) (p1 : Int32) : cr_M l E yX9_takeOff wsX9_takeOff rm_X9_takeOff [.ref (E.2.1 9 0), .int p1] S (cr_vVG S 9) (s_X9_takeOff  p1 (S.1 9)) := by
  have h := c_X9_takeOff l E hEK S (S.1 9) p1
  rw [cr_us_self] at h
  exact h
theorem k_X9_windAt_1 : (Cond.fieldLink RX9 7 "CraneCampaignModel" "z" "[I") ∈ wsX9_windAt := List.mem_of_getElem? (i := 1) (by rfl)
theorem i_X9_windAt_X9 : ∀ w ∈ wsX90, w ∈ wsX9_windAt := by decide +kernel
abbrev rm_X9_windAt : Room := { frames := 0, cells := 0, slots := 0, locals := 0 }
set_option maxHeartbeats 4000000 in
set_option maxRecDepth 100000 in
theorem c_X9_windAt (l : Launch) (E : cr_E) (hEK : cr_EK E) (S0 : cr_S) (G : cr_G) (p1 : Int32) : cr_M l E yX9_windAt wsX9_windAt rm_X9_windAt [.ref (E.2.1 9 0), .int p1] (cr_us S0 9 G) (cr_vI (cr_us S0 9 G)) (s_X9_windAt G p1) := by
  refine cr_enter (cc := cX9_windAt) (nL := 2) (rt := (some .int)) hEK (by decide) rfl (Nat.le_of_ble_eq_true rfl) (fun Γ hΓ X => ?_)
  subst hΓ
  have X : cr_X Γ E cX9_windAt 2 RX9 wsX9_windAt rm_X9_windAt (some .int) := X
  unfold s_X9_windAt
  show cr_P Γ E 2 _ 0 0 (cr_us S0 9 G) 0 ([(0, .ref (E.2.1 9 0)), (1, .int p1)]) [] _
  refine cr_aload_n X 0 rfl dX9_windAt_0 ?_
  refine cr_get X ((cr_m0 E).at (cr_row S0 9 G 0) rfl) rfl i_X9_windAt_X9 0 (by decide) k_X9_windAt_1 rfl dX9_windAt_1 ?_
  refine cr_bipush X (78 : Int32) (by decide) dX9_windAt_4 ?_
  refine cr_ialdk X 78 (by decide) (by decide) ((cr_m1 E).at (cr_row S0 9 G 1) rfl) dX9_windAt_6 ?_
  refine cr_if_ne X 15 dX9_windAt_7 rfl ?_ ?_
  · refine cr_aload_n X 0 rfl dX9_windAt_15 ?_
    refine cr_get X ((cr_m0 E).at (cr_row S0 9 G 0) rfl) rfl i_X9_windAt_X9 0 (by decide) k_X9_windAt_1 rfl dX9_windAt_16 ?_
    refine cr_bipush X (79 : Int32) (by decide) dX9_windAt_19 ?_
    refine cr_iload_n X 1 rfl dX9_windAt_21 ?_
    refine cr_aload_n X 0 rfl dX9_windAt_22 ?_
    refine cr_get X ((cr_m0 E).at (cr_row S0 9 G 0) rfl) rfl i_X9_windAt_X9 0 (by decide) k_X9_windAt_1 rfl dX9_windAt_23 ?_
    refine cr_bipush X (78 : Int32) (by decide) dX9_windAt_26 ?_
    refine cr_ialdk X 78 (by decide) (by decide) ((cr_m1 E).at (cr_row S0 9 G 1) rfl) dX9_windAt_28 ?_
    refine cr_irem X dX9_windAt_29 ?_
    refine cr_iadd X dX9_windAt_30 ?_
    refine cr_iald X ((cr_m1 E).at (cr_row S0 9 G 1) rfl) dX9_windAt_31 ?_
    exact cr_iret X rfl rfl dX9_windAt_32
  · refine cr_bipush X (8 : Int32) (by decide) dX9_windAt_10 ?_
    refine cr_goto X 32 dX9_windAt_12 rfl ?_
    exact cr_iret X rfl rfl dX9_windAt_32
theorem c_X9_windAt_S (l : Launch) (E : cr_E) (hEK : cr_EK E) (S : cr_S) (p1 : Int32) : cr_M l E yX9_windAt wsX9_windAt rm_X9_windAt [.ref (E.2.1 9 0), .int p1] S (cr_vI S) (s_X9_windAt (S.1 9) p1) := by
  have h := c_X9_windAt l E hEK S (S.1 9) p1
  rw [cr_us_self] at h
  exact h
theorem k_X9_hoursOf_1 : (Cond.fieldLink RX9 7 "CraneCampaignModel" "z" "[I") ∈ wsX9_hoursOf := List.mem_of_getElem? (i := 1) (by rfl)
theorem i_X9_hoursOf_X9 : ∀ w ∈ wsX90, w ∈ wsX9_hoursOf := by decide +kernel
abbrev rm_X9_hoursOf : Room := { frames := 0, cells := 0, slots := 0, locals := 0 }
set_option maxHeartbeats 4000000 in
set_option maxRecDepth 100000 in
theorem b_X9_hoursOf_93 {Γ : cr_C} {E : cr_E} (X : cr_X Γ E cX9_hoursOf 8 RX9 wsX9_hoursOf rm_X9_hoursOf (some .int)) (S0 : cr_S) (G : cr_G) (k39 : Int32 → Int32 → Int32 → Int32 → Option Int32) (hk39 : ∀ (x1 : Int32) (x2 : Int32) (x4 : Int32) (x5 : Int32), cr_P Γ E 8 (cr_F Γ E (cr_vI (cr_us S0 9 G))) 0 0 (cr_us S0 9 G) 39 ([(0, .ref (E.2.1 9 0)), (1, .int x1), (2, .int x2), (4, .int x4), (5, .int x5)]) [] (k39 x1 x2 x4 x5)) (x1 : Int32) (x2 : Int32) (x4 : Int32) (x5 : Int32) (y0 : Int32) : cr_P Γ E 8 (cr_F Γ E (cr_vI (cr_us S0 9 G))) 0 0 (cr_us S0 9 G) 93 ([(0, .ref (E.2.1 9 0)), (1, .int x1), (2, .int x2), (4, .int x4), (5, .int x5)]) ([.int y0]) (s_X9_hoursOf_93 G k39 x1 x2 x4 x5 y0) := by
  have hEK := X.2.2.2.2.2.2.1
  unfold s_X9_hoursOf_93
  refine cr_istore X ([(7, .int y0), (0, .ref (E.2.1 9 0)), (1, .int x1), (2, .int x2), (4, .int x4), (5, .int x5)]) rfl (by decide) dX9_hoursOf_93 ?_
  refine cr_iload X 4 rfl dX9_hoursOf_95 ?_
  refine cr_iload X 0 rfl dX9_hoursOf_97 ?_
  refine cr_if_eq X 133 dX9_hoursOf_99 rfl ?_ ?_
  · refine cr_iconst X (0 : Int32) (by decide) dX9_hoursOf_133 ?_
    refine cr_iadd X dX9_hoursOf_134 ?_
    refine cr_istoreb X (fun v135_3 => [(4, .int v135_3), (7, .int y0), (0, .ref (E.2.1 9 0)), (1, .int x1), (2, .int x2), (5, .int x5)]) (fun _ => rfl) (by decide) dX9_hoursOf_135 (fun v135_3 => ?_)
    refine cr_iinc X (x5 + 1) (fun v137_4 => [(5, .int v137_4), (4, .int v135_3), (7, .int y0), (0, .ref (E.2.1 9 0)), (1, .int x1), (2, .int x2)]) 5 rfl rfl (fun _ => rfl) (by decide) dX9_hoursOf_137 (fun v137_4 => ?_)
    refine cr_goto X 39 dX9_hoursOf_140 rfl ?_
    refine cr_sub (lv' := [(0, .ref (E.2.1 9 0)), (1, .int x1), (2, .int x2), (4, .int v135_3), (5, .int v137_4)]) [3, 4, 5, 1, 0] rfl ?_
    exact hk39 x1 x2 v135_3 v137_4
  · refine cr_aload_n X 1 rfl dX9_hoursOf_102 ?_
    refine cr_get X ((cr_m0 E).at (cr_row S0 9 G 0) rfl) rfl i_X9_hoursOf_X9 0 (by decide) k_X9_hoursOf_1 rfl dX9_hoursOf_103 ?_
    refine cr_sipush X (134 : Int32) (by decide) dX9_hoursOf_106 ?_
    refine cr_iload X 5 rfl dX9_hoursOf_109 ?_
    refine cr_iadd X dX9_hoursOf_111 ?_
    refine cr_iald X ((cr_m1 E).at (cr_row S0 9 G 1) rfl) dX9_hoursOf_112 ?_
    refine cr_aload_n X 1 rfl dX9_hoursOf_113 ?_
    refine cr_get X ((cr_m0 E).at (cr_row S0 9 G 0) rfl) rfl i_X9_hoursOf_X9 0 (by decide) k_X9_hoursOf_1 rfl dX9_hoursOf_114 ?_
    refine cr_bipush X (77 : Int32) (by decide) dX9_hoursOf_117 ?_
    refine cr_ialdk X 77 (by decide) (by decide) ((cr_m1 E).at (cr_row S0 9 G 1) rfl) dX9_hoursOf_119 ?_
    refine cr_icmp_le X 133 dX9_hoursOf_120 rfl ?_ ?_
    · refine cr_iconst X (0 : Int32) (by decide) dX9_hoursOf_133 ?_
      refine cr_iadd X dX9_hoursOf_134 ?_
      refine cr_istoreb X (fun v135_5 => [(4, .int v135_5), (7, .int y0), (0, .ref (E.2.1 9 0)), (1, .int x1), (2, .int x2), (5, .int x5)]) (fun _ => rfl) (by decide) dX9_hoursOf_135 (fun v135_5 => ?_)
      refine cr_iinc X (x5 + 1) (fun v137_6 => [(5, .int v137_6), (4, .int v135_5), (7, .int y0), (0, .ref (E.2.1 9 0)), (1, .int x1), (2, .int x2)]) 5 rfl rfl (fun _ => rfl) (by decide) dX9_hoursOf_137 (fun v137_6 => ?_)
      refine cr_goto X 39 dX9_hoursOf_140 rfl ?_
      refine cr_sub (lv' := [(0, .ref (E.2.1 9 0)), (1, .int x1), (2, .int x2), (4, .int v135_5), (5, .int v137_6)]) [3, 4, 5, 1, 0] rfl ?_
      exact hk39 x1 x2 v135_5 v137_6
    · refine cr_aload_n X 1 rfl dX9_hoursOf_123 ?_
      refine cr_get X ((cr_m0 E).at (cr_row S0 9 G 0) rfl) rfl i_X9_hoursOf_X9 0 (by decide) k_X9_hoursOf_1 rfl dX9_hoursOf_124 ?_
      refine cr_bipush X (75 : Int32) (by decide) dX9_hoursOf_127 ?_
      refine cr_ialdk X 75 (by decide) (by decide) ((cr_m1 E).at (cr_row S0 9 G 1) rfl) dX9_hoursOf_129 ?_
      refine cr_goto X 134 dX9_hoursOf_130 rfl ?_
      refine cr_iadd X dX9_hoursOf_134 ?_
      refine cr_istoreb X (fun v135_7 => [(4, .int v135_7), (7, .int y0), (0, .ref (E.2.1 9 0)), (1, .int x1), (2, .int x2), (5, .int x5)]) (fun _ => rfl) (by decide) dX9_hoursOf_135 (fun v135_7 => ?_)
      refine cr_iinc X (x5 + 1) (fun v137_8 => [(5, .int v137_8), (4, .int v135_7), (7, .int y0), (0, .ref (E.2.1 9 0)), (1, .int x1), (2, .int x2)]) 5 rfl rfl (fun _ => rfl) (by decide) dX9_hoursOf_137 (fun v137_8 => ?_)
      refine cr_goto X 39 dX9_hoursOf_140 rfl ?_
      refine cr_sub (lv' := [(0, .ref (E.2.1 9 0)), (1, .int x1), (2, .int x2), (4, .int v135_7), (5, .int v137_8)]) [3, 4, 5, 1, 0] rfl ?_
      exact hk39 x1 x2 v135_7 v137_8
set_option maxHeartbeats 4000000 in
set_option maxRecDepth 100000 in
theorem b_X9_hoursOf_76 {Γ : cr_C} {E : cr_E} (X : cr_X Γ E cX9_hoursOf 8 RX9 wsX9_hoursOf rm_X9_hoursOf (some .int)) (S0 : cr_S) (G : cr_G) (k39 : Int32 → Int32 → Int32 → Int32 → Option Int32) (hk39 : ∀ (x1 : Int32) (x2 : Int32) (x4 : Int32) (x5 : Int32), cr_P Γ E 8 (cr_F Γ E (cr_vI (cr_us S0 9 G))) 0 0 (cr_us S0 9 G) 39 ([(0, .ref (E.2.1 9 0)), (1, .int x1), (2, .int x2), (4, .int x4), (5, .int x5)]) [] (k39 x1 x2 x4 x5)) (x1 : Int32) (x2 : Int32) (x4 : Int32) (x5 : Int32) (x6 : Int32) : cr_P Γ E 8 (cr_F Γ E (cr_vI (cr_us S0 9 G))) 0 0 (cr_us S0 9 G) 76 ([(0, .ref (E.2.1 9 0)), (1, .int x1), (2, .int x2), (4, .int x4), (5, .int x5), (6, .int x6)]) ([]) (s_X9_hoursOf_76 G k39 x1 x2 x4 x5 x6) := by
  have hEK := X.2.2.2.2.2.2.1
  unfold s_X9_hoursOf_76
  refine cr_iload_n X 2 rfl dX9_hoursOf_76 ?_
  refine cr_iload X 5 rfl dX9_hoursOf_77 ?_
  refine cr_icmp_ge X 92 dX9_hoursOf_79 rfl ?_ ?_
  · refine cr_iconst X (0 : Int32) (by decide) dX9_hoursOf_92 ?_
    refine cr_sub (lv' := [(0, .ref (E.2.1 9 0)), (1, .int x1), (2, .int x2), (4, .int x4), (5, .int x5)]) [0, 1, 2, 3, 4] rfl ?_
    exact b_X9_hoursOf_93 X S0 G k39 hk39 x1 x2 x4 x5 ((0 : Int32))
  · refine cr_iload X 5 rfl dX9_hoursOf_82 ?_
    refine cr_iload_n X 1 rfl dX9_hoursOf_84 ?_
    refine cr_icmp_ge X 92 dX9_hoursOf_85 rfl ?_ ?_
    · refine cr_iconst X (0 : Int32) (by decide) dX9_hoursOf_92 ?_
      refine cr_sub (lv' := [(0, .ref (E.2.1 9 0)), (1, .int x1), (2, .int x2), (4, .int x4), (5, .int x5)]) [0, 1, 2, 3, 4] rfl ?_
      exact b_X9_hoursOf_93 X S0 G k39 hk39 x1 x2 x4 x5 ((0 : Int32))
    · refine cr_iconst X (1 : Int32) (by decide) dX9_hoursOf_88 ?_
      refine cr_goto X 93 dX9_hoursOf_89 rfl ?_
      refine cr_sub (lv' := [(0, .ref (E.2.1 9 0)), (1, .int x1), (2, .int x2), (4, .int x4), (5, .int x5)]) [0, 1, 2, 3, 4] rfl ?_
      exact b_X9_hoursOf_93 X S0 G k39 hk39 x1 x2 x4 x5 ((1 : Int32))
set_option maxHeartbeats 4000000 in
set_option maxRecDepth 100000 in
theorem b_X9_hoursOf_39 {Γ : cr_C} {E : cr_E} (X : cr_X Γ E cX9_hoursOf 8 RX9 wsX9_hoursOf rm_X9_hoursOf (some .int)) (S0 : cr_S) (G : cr_G) : ∀ (n : Nat) (x1 : Int32) (x2 : Int32) (x4 : Int32) (x5 : Int32), cr_P Γ E 8 (cr_F Γ E (cr_vI (cr_us S0 9 G))) 0 0 (cr_us S0 9 G) 39 ([(0, .ref (E.2.1 9 0)), (1, .int x1), (2, .int x2), (4, .int x4), (5, .int x5)]) ([]) (s_X9_hoursOf_39 G n x1 x2 x4 x5) := by
  have hEK := X.2.2.2.2.2.2.1
  intro n
  induction n with
  | zero => intro x1 x2 x4 x5; exact cr_none
  | succ n ih =>
    intro x1 x2 x4 x5
    rw [s_X9_hoursOf_39]
    refine cr_iload X 4 rfl dX9_hoursOf_39 ?_
    refine cr_aload_n X 0 rfl dX9_hoursOf_41 ?_
    refine cr_get X ((cr_m0 E).at (cr_row S0 9 G 0) rfl) rfl i_X9_hoursOf_X9 0 (by decide) k_X9_hoursOf_1 rfl dX9_hoursOf_42 ?_
    refine cr_bipush X (127 : Int32) (by decide) dX9_hoursOf_45 ?_
    refine cr_ialdk X 127 (by decide) (by decide) ((cr_m1 E).at (cr_row S0 9 G 1) rfl) dX9_hoursOf_47 ?_
    refine cr_icmp_ge X 143 dX9_hoursOf_48 rfl ?_ ?_
    · refine cr_iload X 3 rfl dX9_hoursOf_143 ?_
      exact cr_iret X rfl rfl dX9_hoursOf_145
    · refine cr_aload_n X 0 rfl dX9_hoursOf_51 ?_
      refine cr_get X ((cr_m0 E).at (cr_row S0 9 G 0) rfl) rfl i_X9_hoursOf_X9 0 (by decide) k_X9_hoursOf_1 rfl dX9_hoursOf_52 ?_
      refine cr_sipush X (128 : Int32) (by decide) dX9_hoursOf_55 ?_
      refine cr_iload X 4 rfl dX9_hoursOf_58 ?_
      refine cr_iadd X dX9_hoursOf_60 ?_
      refine cr_iald X ((cr_m1 E).at (cr_row S0 9 G 1) rfl) dX9_hoursOf_61 ?_
      refine cr_istoreb X (fun v62_2 => [(6, .int v62_2), (0, .ref (E.2.1 9 0)), (1, .int x1), (2, .int x2), (4, .int x4), (5, .int x5)]) (fun _ => rfl) (by decide) dX9_hoursOf_62 (fun v62_2 => ?_)
      refine cr_iload_n X 2 rfl dX9_hoursOf_64 ?_
      refine cr_iload X 0 rfl dX9_hoursOf_65 ?_
      refine cr_icmp_ge X 76 dX9_hoursOf_67 rfl ?_ ?_
      · refine cr_sub (lv' := [(0, .ref (E.2.1 9 0)), (1, .int x1), (2, .int x2), (4, .int x4), (5, .int x5), (6, .int v62_2)]) [1, 2, 3, 4, 5, 0] rfl ?_
        exact b_X9_hoursOf_76 X S0 G (fun x1a x2a x4a x5a => s_X9_hoursOf_39 G n x1a x2a x4a x5a) ih x1 x2 x4 x5 v62_2
      · refine cr_iload X 0 rfl dX9_hoursOf_70 ?_
        refine cr_iload_n X 3 rfl dX9_hoursOf_72 ?_
        refine cr_icmp_lt X 88 dX9_hoursOf_73 rfl ?_ ?_
        · refine cr_iconst X (1 : Int32) (by decide) dX9_hoursOf_88 ?_
          refine cr_goto X 93 dX9_hoursOf_89 rfl ?_
          refine cr_sub (lv' := [(0, .ref (E.2.1 9 0)), (1, .int x1), (2, .int x2), (4, .int x4), (5, .int x5)]) [1, 2, 3, 4, 5] rfl ?_
          exact b_X9_hoursOf_93 X S0 G (fun x1a x2a x4a x5a => s_X9_hoursOf_39 G n x1a x2a x4a x5a) ih x1 x2 x4 x5 ((1 : Int32))
        · refine cr_sub (lv' := [(0, .ref (E.2.1 9 0)), (1, .int x1), (2, .int x2), (4, .int x4), (5, .int x5), (6, .int v62_2)]) [1, 2, 3, 4, 5, 0] rfl ?_
          exact b_X9_hoursOf_76 X S0 G (fun x1a x2a x4a x5a => s_X9_hoursOf_39 G n x1a x2a x4a x5a) ih x1 x2 x4 x5 v62_2
set_option maxHeartbeats 4000000 in
set_option maxRecDepth 100000 in
theorem b_X9_hoursOf_14 {Γ : cr_C} {E : cr_E} (X : cr_X Γ E cX9_hoursOf 8 RX9 wsX9_hoursOf rm_X9_hoursOf (some .int)) (S0 : cr_S) (G : cr_G) (x1 : Int32) (x2 : Int32) (y0 : Int32) : cr_P Γ E 8 (cr_F Γ E (cr_vI (cr_us S0 9 G))) 0 0 (cr_us S0 9 G) 14 ([(0, .ref (E.2.1 9 0)), (1, .int x1), (2, .int x2)]) ([.int y0]) (s_X9_hoursOf_14 G x1 x2 y0) := by
  have hEK := X.2.2.2.2.2.2.1
  unfold s_X9_hoursOf_14
  refine cr_istore_n X ([(3, .int y0), (0, .ref (E.2.1 9 0)), (1, .int x1), (2, .int x2)]) rfl (by decide) dX9_hoursOf_14 ?_
  refine cr_iload_n X 0 rfl dX9_hoursOf_15 ?_
  refine cr_aload_n X 1 rfl dX9_hoursOf_16 ?_
  refine cr_get X ((cr_m0 E).at (cr_row S0 9 G 0) rfl) rfl i_X9_hoursOf_X9 0 (by decide) k_X9_hoursOf_1 rfl dX9_hoursOf_17 ?_
  refine cr_bipush X (72 : Int32) (by decide) dX9_hoursOf_20 ?_
  refine cr_ialdk X 72 (by decide) (by decide) ((cr_m1 E).at (cr_row S0 9 G 1) rfl) dX9_hoursOf_22 ?_
  refine cr_iadd X dX9_hoursOf_23 ?_
  refine cr_iconst X (1 : Int32) (by decide) dX9_hoursOf_24 ?_
  refine cr_isub X dX9_hoursOf_25 ?_
  refine cr_aload_n X 1 rfl dX9_hoursOf_26 ?_
  refine cr_get X ((cr_m0 E).at (cr_row S0 9 G 0) rfl) rfl i_X9_hoursOf_X9 0 (by decide) k_X9_hoursOf_1 rfl dX9_hoursOf_27 ?_
  refine cr_bipush X (72 : Int32) (by decide) dX9_hoursOf_30 ?_
  refine cr_ialdk X 72 (by decide) (by decide) ((cr_m1 E).at (cr_row S0 9 G 1) rfl) dX9_hoursOf_32 ?_
  refine cr_idiv X dX9_hoursOf_33 ?_
  refine cr_istoreb X (fun v34_1 => [(4, .int v34_1), (3, .int y0), (0, .ref (E.2.1 9 0)), (1, .int x1), (2, .int x2)]) (fun _ => rfl) (by decide) dX9_hoursOf_34 (fun v34_1 => ?_)
  refine cr_iconst X (0 : Int32) (by decide) dX9_hoursOf_36 ?_
  refine cr_istore X ([(5, .int ((0 : Int32))), (4, .int v34_1), (3, .int y0), (0, .ref (E.2.1 9 0)), (1, .int x1), (2, .int x2)]) rfl (by decide) dX9_hoursOf_37 ?_
  refine cr_sub (lv' := [(0, .ref (E.2.1 9 0)), (1, .int x1), (2, .int x2), (4, .int v34_1), (5, .int ((0 : Int32)))]) [3, 4, 5, 1, 0] rfl ?_
  exact b_X9_hoursOf_39 X S0 G 1200 x1 x2 v34_1 ((0 : Int32))
set_option maxHeartbeats 4000000 in
set_option maxRecDepth 100000 in
theorem c_X9_hoursOf (l : Launch) (E : cr_E) (hEK : cr_EK E) (S0 : cr_S) (G : cr_G) (p1 : Int32) (p2 : Int32) : cr_M l E yX9_hoursOf wsX9_hoursOf rm_X9_hoursOf [.ref (E.2.1 9 0), .int p1, .int p2] (cr_us S0 9 G) (cr_vI (cr_us S0 9 G)) (s_X9_hoursOf G p1 p2) := by
  refine cr_enter (cc := cX9_hoursOf) (nL := 8) (rt := (some .int)) hEK (by decide) rfl (Nat.le_of_ble_eq_true rfl) (fun Γ hΓ X => ?_)
  subst hΓ
  have X : cr_X Γ E cX9_hoursOf 8 RX9 wsX9_hoursOf rm_X9_hoursOf (some .int) := X
  unfold s_X9_hoursOf
  show cr_P Γ E 8 _ 0 0 (cr_us S0 9 G) 0 ([(0, .ref (E.2.1 9 0)), (1, .int p1), (2, .int p2)]) [] _
  refine cr_iload_n X 1 rfl dX9_hoursOf_0 ?_
  refine cr_iload_n X 2 rfl dX9_hoursOf_1 ?_
  refine cr_icmp_ge X 11 dX9_hoursOf_2 rfl ?_ ?_
  · refine cr_iload_n X 1 rfl dX9_hoursOf_11 ?_
    refine cr_iload_n X 2 rfl dX9_hoursOf_12 ?_
    refine cr_isub X dX9_hoursOf_13 ?_
    refine cr_sub (lv' := [(0, .ref (E.2.1 9 0)), (1, .int p1), (2, .int p2)]) [0, 1, 2] rfl ?_
    exact b_X9_hoursOf_14 X S0 G p1 p2 ((p1 - p2))
  · refine cr_iload_n X 2 rfl dX9_hoursOf_5 ?_
    refine cr_iload_n X 1 rfl dX9_hoursOf_6 ?_
    refine cr_isub X dX9_hoursOf_7 ?_
    refine cr_goto X 14 dX9_hoursOf_8 rfl ?_
    refine cr_sub (lv' := [(0, .ref (E.2.1 9 0)), (1, .int p1), (2, .int p2)]) [0, 1, 2] rfl ?_
    exact b_X9_hoursOf_14 X S0 G p1 p2 ((p2 - p1))
theorem c_X9_hoursOf_S (l : Launch) (E : cr_E) (hEK : cr_EK E) (S : cr_S) (p1 : Int32) (p2 : Int32) : cr_M l E yX9_hoursOf wsX9_hoursOf rm_X9_hoursOf [.ref (E.2.1 9 0), .int p1, .int p2] S (cr_vI S) (s_X9_hoursOf (S.1 9) p1 p2) := by
  have h := c_X9_hoursOf l E hEK S (S.1 9) p1 p2
  rw [cr_us_self] at h
  exact h
theorem k_X9_bladeFor_1 : (Cond.fieldLink RX9 7 "CraneCampaignModel" "z" "[I") ∈ wsX9_bladeFor := List.mem_of_getElem? (i := 1) (by rfl)
theorem i_X9_bladeFor_X9 : ∀ w ∈ wsX90, w ∈ wsX9_bladeFor := by decide +kernel
abbrev rm_X9_bladeFor : Room := { frames := 0, cells := 0, slots := 0, locals := 0 }
set_option maxHeartbeats 4000000 in
set_option maxRecDepth 100000 in
theorem b_X9_bladeFor_13 {Γ : cr_C} {E : cr_E} (X : cr_X Γ E cX9_bladeFor 4 RX9 wsX9_bladeFor rm_X9_bladeFor (some .int)) (S0 : cr_S) (G : cr_G) : ∀ (n : Nat) (x1 : Int32) (x2 : Int32) (x3 : Int32), cr_P Γ E 4 (cr_F Γ E (cr_vI (cr_us S0 9 G))) 0 0 (cr_us S0 9 G) 13 ([(0, .ref (E.2.1 9 0)), (1, .int x1), (2, .int x2), (3, .int x3)]) ([]) (s_X9_bladeFor_13 G n x1 x2 x3) := by
  have hEK := X.2.2.2.2.2.2.1
  intro n
  induction n with
  | zero => intro x1 x2 x3; exact cr_none
  | succ n ih =>
    intro x1 x2 x3
    rw [s_X9_bladeFor_13]
    refine cr_iload_n X 3 rfl dX9_bladeFor_13 ?_
    refine cr_if_lt X 56 dX9_bladeFor_14 rfl ?_ ?_
    · refine cr_iload_n X 2 rfl dX9_bladeFor_56 ?_
      exact cr_iret X rfl rfl dX9_bladeFor_57
    · refine cr_aload_n X 0 rfl dX9_bladeFor_17 ?_
      refine cr_get X ((cr_m0 E).at (cr_row S0 9 G 0) rfl) rfl i_X9_bladeFor_X9 0 (by decide) k_X9_bladeFor_1 rfl dX9_bladeFor_18 ?_
      refine cr_sipush X (157 : Int32) (by decide) dX9_bladeFor_21 ?_
      refine cr_iload_n X 3 rfl dX9_bladeFor_24 ?_
      refine cr_iadd X dX9_bladeFor_25 ?_
      refine cr_iald X ((cr_m1 E).at (cr_row S0 9 G 1) rfl) dX9_bladeFor_26 ?_
      refine cr_iload_n X 1 rfl dX9_bladeFor_27 ?_
      refine cr_icmp_ne X 48 dX9_bladeFor_28 rfl ?_ ?_
      · refine cr_iload_n X 2 rfl dX9_bladeFor_48 ?_
        refine cr_istore_n X ([(2, .int x2), (0, .ref (E.2.1 9 0)), (1, .int x1), (3, .int x3)]) rfl (by decide) dX9_bladeFor_49 ?_
        refine cr_iinc X (x3 + (-1)) (fun v50_2 => [(3, .int v50_2), (2, .int x2), (0, .ref (E.2.1 9 0)), (1, .int x1)]) 3 rfl (congrArg (fun z => x3 + z) (show Int32.ofInt (-1) = (-1 : Int32) by decide)) (fun _ => rfl) (by decide) dX9_bladeFor_50 (fun v50_2 => ?_)
        refine cr_goto X 13 dX9_bladeFor_53 rfl ?_
        refine cr_sub (lv' := [(0, .ref (E.2.1 9 0)), (1, .int x1), (2, .int x2), (3, .int v50_2)]) [2, 3, 1, 0] rfl ?_
        exact ih x1 x2 v50_2
      · refine cr_aload_n X 0 rfl dX9_bladeFor_31 ?_
        refine cr_get X ((cr_m0 E).at (cr_row S0 9 G 0) rfl) rfl i_X9_bladeFor_X9 0 (by decide) k_X9_bladeFor_1 rfl dX9_bladeFor_32 ?_
        refine cr_sipush X (167 : Int32) (by decide) dX9_bladeFor_35 ?_
        refine cr_iload_n X 3 rfl dX9_bladeFor_38 ?_
        refine cr_iadd X dX9_bladeFor_39 ?_
        refine cr_iald X ((cr_m1 E).at (cr_row S0 9 G 1) rfl) dX9_bladeFor_40 ?_
        refine cr_if_ne X 48 dX9_bladeFor_41 rfl ?_ ?_
        · refine cr_iload_n X 2 rfl dX9_bladeFor_48 ?_
          refine cr_istore_n X ([(2, .int x2), (0, .ref (E.2.1 9 0)), (1, .int x1), (3, .int x3)]) rfl (by decide) dX9_bladeFor_49 ?_
          refine cr_iinc X (x3 + (-1)) (fun v50_3 => [(3, .int v50_3), (2, .int x2), (0, .ref (E.2.1 9 0)), (1, .int x1)]) 3 rfl (congrArg (fun z => x3 + z) (show Int32.ofInt (-1) = (-1 : Int32) by decide)) (fun _ => rfl) (by decide) dX9_bladeFor_50 (fun v50_3 => ?_)
          refine cr_goto X 13 dX9_bladeFor_53 rfl ?_
          refine cr_sub (lv' := [(0, .ref (E.2.1 9 0)), (1, .int x1), (2, .int x2), (3, .int v50_3)]) [2, 3, 1, 0] rfl ?_
          exact ih x1 x2 v50_3
        · refine cr_iload_n X 3 rfl dX9_bladeFor_44 ?_
          refine cr_goto X 49 dX9_bladeFor_45 rfl ?_
          refine cr_istore_n X ([(2, .int x3), (0, .ref (E.2.1 9 0)), (1, .int x1), (3, .int x3)]) rfl (by decide) dX9_bladeFor_49 ?_
          refine cr_iinc X (x3 + (-1)) (fun v50_4 => [(3, .int v50_4), (2, .int x3), (0, .ref (E.2.1 9 0)), (1, .int x1)]) 3 rfl (congrArg (fun z => x3 + z) (show Int32.ofInt (-1) = (-1 : Int32) by decide)) (fun _ => rfl) (by decide) dX9_bladeFor_50 (fun v50_4 => ?_)
          refine cr_goto X 13 dX9_bladeFor_53 rfl ?_
          refine cr_sub (lv' := [(0, .ref (E.2.1 9 0)), (1, .int x1), (2, .int x3), (3, .int v50_4)]) [2, 3, 1, 0] rfl ?_
          exact ih x1 x3 v50_4
set_option maxHeartbeats 4000000 in
set_option maxRecDepth 100000 in
theorem c_X9_bladeFor (l : Launch) (E : cr_E) (hEK : cr_EK E) (S0 : cr_S) (G : cr_G) (p1 : Int32) : cr_M l E yX9_bladeFor wsX9_bladeFor rm_X9_bladeFor [.ref (E.2.1 9 0), .int p1] (cr_us S0 9 G) (cr_vI (cr_us S0 9 G)) (s_X9_bladeFor G p1) := by
  refine cr_enter (cc := cX9_bladeFor) (nL := 4) (rt := (some .int)) hEK (by decide) rfl (Nat.le_of_ble_eq_true rfl) (fun Γ hΓ X => ?_)
  subst hΓ
  have X : cr_X Γ E cX9_bladeFor 4 RX9 wsX9_bladeFor rm_X9_bladeFor (some .int) := X
  unfold s_X9_bladeFor
  show cr_P Γ E 4 _ 0 0 (cr_us S0 9 G) 0 ([(0, .ref (E.2.1 9 0)), (1, .int p1)]) [] _
  refine cr_iconst X (-1 : Int32) (by decide) dX9_bladeFor_0 ?_
  refine cr_istore_n X ([(2, .int ((-1 : Int32))), (0, .ref (E.2.1 9 0)), (1, .int p1)]) rfl (by decide) dX9_bladeFor_1 ?_
  refine cr_aload_n X 1 rfl dX9_bladeFor_2 ?_
  refine cr_get X ((cr_m0 E).at (cr_row S0 9 G 0) rfl) rfl i_X9_bladeFor_X9 0 (by decide) k_X9_bladeFor_1 rfl dX9_bladeFor_3 ?_
  refine cr_sipush X (156 : Int32) (by decide) dX9_bladeFor_6 ?_
  refine cr_ialdk X 156 (by decide) (by decide) ((cr_m1 E).at (cr_row S0 9 G 1) rfl) dX9_bladeFor_9 ?_
  refine cr_iconst X (1 : Int32) (by decide) dX9_bladeFor_10 ?_
  refine cr_isub X dX9_bladeFor_11 ?_
  refine cr_istore_nb X (fun v12_1 => [(3, .int v12_1), (2, .int ((-1 : Int32))), (0, .ref (E.2.1 9 0)), (1, .int p1)]) (fun _ => rfl) (by decide) dX9_bladeFor_12 (fun v12_1 => ?_)
  refine cr_sub (lv' := [(0, .ref (E.2.1 9 0)), (1, .int p1), (2, .int ((-1 : Int32))), (3, .int v12_1)]) [2, 3, 1, 0] rfl ?_
  exact b_X9_bladeFor_13 X S0 G 1200 p1 ((-1 : Int32)) v12_1
theorem c_X9_bladeFor_S (l : Launch) (E : cr_E) (hEK : cr_EK E) (S : cr_S) (p1 : Int32) : cr_M l E yX9_bladeFor wsX9_bladeFor rm_X9_bladeFor [.ref (E.2.1 9 0), .int p1] S (cr_vI S) (s_X9_bladeFor (S.1 9) p1) := by
  have h := c_X9_bladeFor l E hEK S (S.1 9) p1
  rw [cr_us_self] at h
  exact h
theorem k_X9_limitOf_1 : (Cond.fieldLink RX9 7 "CraneCampaignModel" "z" "[I") ∈ wsX9_limitOf := List.mem_of_getElem? (i := 1) (by rfl)
theorem i_X9_limitOf_X9 : ∀ w ∈ wsX90, w ∈ wsX9_limitOf := by decide +kernel
abbrev rm_X9_limitOf : Room := { frames := 0, cells := 0, slots := 0, locals := 0 }
set_option maxHeartbeats 4000000 in
set_option maxRecDepth 100000 in
theorem c_X9_limitOf (l : Launch) (E : cr_E) (hEK : cr_EK E) (S0 : cr_S) (G : cr_G) (p1 : Int32) : cr_M l E yX9_limitOf wsX9_limitOf rm_X9_limitOf [.ref (E.2.1 9 0), .int p1] (cr_us S0 9 G) (cr_vI (cr_us S0 9 G)) (s_X9_limitOf G p1) := by
  refine cr_enter (cc := cX9_limitOf) (nL := 2) (rt := (some .int)) hEK (by decide) rfl (Nat.le_of_ble_eq_true rfl) (fun Γ hΓ X => ?_)
  subst hΓ
  have X : cr_X Γ E cX9_limitOf 2 RX9 wsX9_limitOf rm_X9_limitOf (some .int) := X
  unfold s_X9_limitOf
  show cr_P Γ E 2 _ 0 0 (cr_us S0 9 G) 0 ([(0, .ref (E.2.1 9 0)), (1, .int p1)]) [] _
  refine cr_aload_n X 0 rfl dX9_limitOf_0 ?_
  refine cr_get X ((cr_m0 E).at (cr_row S0 9 G 0) rfl) rfl i_X9_limitOf_X9 0 (by decide) k_X9_limitOf_1 rfl dX9_limitOf_1 ?_
  refine cr_bipush X (71 : Int32) (by decide) dX9_limitOf_4 ?_
  refine cr_ialdk X 71 (by decide) (by decide) ((cr_m1 E).at (cr_row S0 9 G 1) rfl) dX9_limitOf_6 ?_
  refine cr_aload_n X 0 rfl dX9_limitOf_7 ?_
  refine cr_get X ((cr_m0 E).at (cr_row S0 9 G 0) rfl) rfl i_X9_limitOf_X9 0 (by decide) k_X9_limitOf_1 rfl dX9_limitOf_8 ?_
  refine cr_bipush X (10 : Int32) (by decide) dX9_limitOf_11 ?_
  refine cr_iload_n X 1 rfl dX9_limitOf_13 ?_
  refine cr_iadd X dX9_limitOf_14 ?_
  refine cr_iald X ((cr_m1 E).at (cr_row S0 9 G 1) rfl) dX9_limitOf_15 ?_
  refine cr_bipush X (25 : Int32) (by decide) dX9_limitOf_16 ?_
  refine cr_idivk X (by decide) dX9_limitOf_18 ?_
  refine cr_isub X dX9_limitOf_19 ?_
  exact cr_iret X rfl rfl dX9_limitOf_20
theorem c_X9_limitOf_S (l : Launch) (E : cr_E) (hEK : cr_EK E) (S : cr_S) (p1 : Int32) : cr_M l E yX9_limitOf wsX9_limitOf rm_X9_limitOf [.ref (E.2.1 9 0), .int p1] S (cr_vI S) (s_X9_limitOf (S.1 9) p1) := by
  have h := c_X9_limitOf l E hEK S (S.1 9) p1
  rw [cr_us_self] at h
  exact h
theorem k_X9_serve_1 : (Cond.fieldLink RX9 7 "CraneCampaignModel" "z" "[I") ∈ wsX9_serve := List.mem_of_getElem? (i := 1) (by rfl)
theorem i_X9_serve_X9 : ∀ w ∈ wsX90, w ∈ wsX9_serve := by decide +kernel
abbrev rm_X9_serve : Room := { frames := 1, cells := 0, slots := 0, locals := 27 }
set_option maxHeartbeats 4000000 in
set_option maxRecDepth 100000 in
theorem b_X9_serve_155 {Γ : cr_C} {E : cr_E} (X : cr_X Γ E cX9_serve 4 RX9 wsX9_serve rm_X9_serve (some .int)) (S0 : cr_S) (x1 : Int32) (G : cr_G) : cr_P Γ E 4 (cr_F Γ E (cr_vIG S0 9)) 0 0 (cr_us S0 9 G) 155 ([(0, .ref (E.2.1 9 0)), (1, .int x1)]) ([]) (s_X9_serve_155 x1 G) := by
  have hEK := X.2.2.2.2.2.2.1
  unfold s_X9_serve_155
  refine cr_aload_n X 0 rfl dX9_serve_155 ?_
  refine cr_get X ((cr_m0 E).at (cr_row S0 9 G 0) rfl) rfl i_X9_serve_X9 0 (by decide) k_X9_serve_1 rfl dX9_serve_156 ?_
  refine cr_sipush X (142 : Int32) (by decide) dX9_serve_159 ?_
  refine cr_ialdk X 142 (by decide) (by decide) ((cr_m1 E).at (cr_row S0 9 G 1) rfl) dX9_serve_162 ?_
  refine cr_if_ne X 191 dX9_serve_163 rfl ?_ ?_
  · refine cr_iconst X (1 : Int32) (by decide) dX9_serve_191 ?_
    exact cr_iret X rfl rfl dX9_serve_192
  · refine cr_aload_n X 0 rfl dX9_serve_166 ?_
    refine cr_get X ((cr_m0 E).at (cr_row S0 9 G 0) rfl) rfl i_X9_serve_X9 0 (by decide) k_X9_serve_1 rfl dX9_serve_167 ?_
    refine cr_sipush X (140 : Int32) (by decide) dX9_serve_170 ?_
    refine cr_aload_n X 0 rfl dX9_serve_173 ?_
    refine cr_get X ((cr_m0 E).at (cr_row S0 9 G 0) rfl) rfl i_X9_serve_X9 0 (by decide) k_X9_serve_1 rfl dX9_serve_174 ?_
    refine cr_iconst X (0 : Int32) (by decide) dX9_serve_177 ?_
    refine cr_iload_n X 1 rfl dX9_serve_178 ?_
    refine cr_iadd X dX9_serve_179 ?_
    refine cr_iald X ((cr_m1 E).at (cr_row S0 9 G 1) rfl) dX9_serve_180 ?_
    refine cr_iastGk X 140 (cr_m1 E) (fun _ _ => rfl) (by decide) (by decide) dX9_serve_181 (fun G181_10 => ?_)
    refine cr_aload_n X 0 rfl dX9_serve_182 ?_
    refine cr_get X ((cr_m0 E).at (cr_row S0 9 G181_10 0) rfl) rfl i_X9_serve_X9 0 (by decide) k_X9_serve_1 rfl dX9_serve_183 ?_
    refine cr_sipush X (141 : Int32) (by decide) dX9_serve_186 ?_
    refine cr_iconst X (-1 : Int32) (by decide) dX9_serve_189 ?_
    refine cr_iastGk X 141 (cr_m1 E) (fun _ _ => rfl) (by decide) (by decide) dX9_serve_190 (fun G190_11 => ?_)
    refine cr_iconst X (1 : Int32) (by decide) dX9_serve_191 ?_
    exact cr_iret X rfl rfl dX9_serve_192
set_option maxHeartbeats 4000000 in
set_option maxRecDepth 100000 in
theorem b_X9_serve_58 {Γ : cr_C} {E : cr_E} (X : cr_X Γ E cX9_serve 4 RX9 wsX9_serve rm_X9_serve (some .int)) (S0 : cr_S) (x1 : Int32) (G : cr_G) : cr_P Γ E 4 (cr_F Γ E (cr_vIG S0 9)) 0 0 (cr_us S0 9 G) 58 ([(0, .ref (E.2.1 9 0)), (1, .int x1)]) ([]) (s_X9_serve_58 x1 G) := by
  have hEK := X.2.2.2.2.2.2.1
  unfold s_X9_serve_58
  refine cr_aload_n X 0 rfl dX9_serve_58 ?_
  refine cr_aload_n X 0 rfl dX9_serve_59 ?_
  refine cr_get X ((cr_m0 E).at (cr_row S0 9 G 0) rfl) rfl i_X9_serve_X9 0 (by decide) k_X9_serve_1 rfl dX9_serve_60 ?_
  refine cr_sipush X (140 : Int32) (by decide) dX9_serve_63 ?_
  refine cr_ialdk X 140 (by decide) (by decide) ((cr_m1 E).at (cr_row S0 9 G 1) rfl) dX9_serve_66 ?_
  refine cr_aload_n X 0 rfl dX9_serve_67 ?_
  refine cr_get X ((cr_m0 E).at (cr_row S0 9 G 0) rfl) rfl i_X9_serve_X9 0 (by decide) k_X9_serve_1 rfl dX9_serve_68 ?_
  refine cr_iconst X (0 : Int32) (by decide) dX9_serve_71 ?_
  refine cr_iload_n X 1 rfl dX9_serve_72 ?_
  refine cr_iadd X dX9_serve_73 ?_
  refine cr_iald X ((cr_m1 E).at (cr_row S0 9 G 1) rfl) dX9_serve_74 ?_
  refine cr_callV X (As := [.int (((G 1) 140)), .int (((G 1) (((0 : Int32) + x1)).toNatClampNeg))]) (rest := []) (c_X9_hoursOf Γ.2.1 E hEK S0 G (((G 1) 140)) (((G 1) (((0 : Int32) + x1)).toNatClampNeg))) ((cr_m0 E).at (cr_row S0 9 G 0) rfl) rfl 2 gX9_serve_X9_hoursOf rfl rfl rfl (by decide +kernel) ⟨Nat.le_of_ble_eq_true rfl, Nat.le_of_ble_eq_true rfl⟩ (by decide) rfl rfl (Nat.le_of_ble_eq_true rfl) dX9_serve_75 (fun r75_6 => ?_)
  show cr_P Γ E 4 _ 0 0 (cr_us S0 9 G) 78 ([(0, .ref (E.2.1 9 0)), (1, .int x1)]) ([.int r75_6]) _
  refine cr_istore_n X ([(3, .int r75_6), (0, .ref (E.2.1 9 0)), (1, .int x1)]) rfl (by decide) dX9_serve_78 ?_
  refine cr_aload_n X 1 rfl dX9_serve_79 ?_
  refine cr_get X ((cr_m0 E).at (cr_row S0 9 G 0) rfl) rfl i_X9_serve_X9 0 (by decide) k_X9_serve_1 rfl dX9_serve_80 ?_
  refine cr_sipush X (141 : Int32) (by decide) dX9_serve_83 ?_
  refine cr_iload_n X 2 rfl dX9_serve_86 ?_
  refine cr_iastGk X 141 (cr_m1 E) (fun _ _ => rfl) (by decide) (by decide) dX9_serve_87 (fun G87_7 => ?_)
  refine cr_aload_n X 1 rfl dX9_serve_88 ?_
  refine cr_get X ((cr_m0 E).at (cr_row S0 9 G87_7 0) rfl) rfl i_X9_serve_X9 0 (by decide) k_X9_serve_1 rfl dX9_serve_89 ?_
  refine cr_sipush X (142 : Int32) (by decide) dX9_serve_92 ?_
  refine cr_iload_n X 0 rfl dX9_serve_95 ?_
  refine cr_if_ne X 103 dX9_serve_96 rfl ?_ ?_
  · refine cr_iload_n X 0 rfl dX9_serve_103 ?_
    refine cr_iconst X (1 : Int32) (by decide) dX9_serve_104 ?_
    refine cr_isub X dX9_serve_105 ?_
    refine cr_iastGk X 142 (cr_m1 E) (fun _ _ => rfl) (by decide) (by decide) dX9_serve_106 (fun G106_8 => ?_)
    refine cr_goto X 155 dX9_serve_107 rfl ?_
    refine cr_sub (lv' := [(0, .ref (E.2.1 9 0)), (1, .int x1)]) [1, 2] rfl ?_
    exact b_X9_serve_155 X S0 x1 G106_8
  · refine cr_iconst X (0 : Int32) (by decide) dX9_serve_99 ?_
    refine cr_goto X 106 dX9_serve_100 rfl ?_
    refine cr_iastGk X 142 (cr_m1 E) (fun _ _ => rfl) (by decide) (by decide) dX9_serve_106 (fun G106_9 => ?_)
    refine cr_goto X 155 dX9_serve_107 rfl ?_
    refine cr_sub (lv' := [(0, .ref (E.2.1 9 0)), (1, .int x1)]) [1, 2] rfl ?_
    exact b_X9_serve_155 X S0 x1 G106_9
set_option maxHeartbeats 4000000 in
set_option maxRecDepth 100000 in
theorem c_X9_serve (l : Launch) (E : cr_E) (hEK : cr_EK E) (S0 : cr_S) (G : cr_G) (p1 : Int32) (p2 : Int32) : cr_M l E yX9_serve wsX9_serve rm_X9_serve [.ref (E.2.1 9 0), .int p1, .int p2] (cr_us S0 9 G) (cr_vIG S0 9) (s_X9_serve p1 p2 G) := by
  refine cr_enter (cc := cX9_serve) (nL := 4) (rt := (some .int)) hEK (by decide) rfl (Nat.le_of_ble_eq_true rfl) (fun Γ hΓ X => ?_)
  subst hΓ
  have X : cr_X Γ E cX9_serve 4 RX9 wsX9_serve rm_X9_serve (some .int) := X
  unfold s_X9_serve
  show cr_P Γ E 4 _ 0 0 (cr_us S0 9 G) 0 ([(0, .ref (E.2.1 9 0)), (1, .int p1), (2, .int p2)]) [] _
  refine cr_aload_n X 0 rfl dX9_serve_0 ?_
  refine cr_get X ((cr_m0 E).at (cr_row S0 9 G 0) rfl) rfl i_X9_serve_X9 0 (by decide) k_X9_serve_1 rfl dX9_serve_1 ?_
  refine cr_sipush X (141 : Int32) (by decide) dX9_serve_4 ?_
  refine cr_ialdk X 141 (by decide) (by decide) ((cr_m1 E).at (cr_row S0 9 G 1) rfl) dX9_serve_7 ?_
  refine cr_iload_n X 1 rfl dX9_serve_8 ?_
  refine cr_icmp_ne X 27 dX9_serve_9 rfl ?_ ?_
  · refine cr_aload_n X 0 rfl dX9_serve_27 ?_
    refine cr_get X ((cr_m0 E).at (cr_row S0 9 G 0) rfl) rfl i_X9_serve_X9 0 (by decide) k_X9_serve_1 rfl dX9_serve_28 ?_
    refine cr_sipush X (141 : Int32) (by decide) dX9_serve_31 ?_
    refine cr_ialdk X 141 (by decide) (by decide) ((cr_m1 E).at (cr_row S0 9 G 1) rfl) dX9_serve_34 ?_
    refine cr_iconst X (-1 : Int32) (by decide) dX9_serve_35 ?_
    refine cr_icmp_ne X 58 dX9_serve_36 rfl ?_ ?_
    · refine cr_sub (lv' := [(0, .ref (E.2.1 9 0)), (1, .int p1)]) [0, 1] rfl ?_
      exact b_X9_serve_58 X S0 p1 G
    · refine cr_aload_n X 0 rfl dX9_serve_39 ?_
      refine cr_get X ((cr_m0 E).at (cr_row S0 9 G 0) rfl) rfl i_X9_serve_X9 0 (by decide) k_X9_serve_1 rfl dX9_serve_40 ?_
      refine cr_sipush X (140 : Int32) (by decide) dX9_serve_43 ?_
      refine cr_ialdk X 140 (by decide) (by decide) ((cr_m1 E).at (cr_row S0 9 G 1) rfl) dX9_serve_46 ?_
      refine cr_aload_n X 0 rfl dX9_serve_47 ?_
      refine cr_get X ((cr_m0 E).at (cr_row S0 9 G 0) rfl) rfl i_X9_serve_X9 0 (by decide) k_X9_serve_1 rfl dX9_serve_48 ?_
      refine cr_iconst X (0 : Int32) (by decide) dX9_serve_51 ?_
      refine cr_iload_n X 1 rfl dX9_serve_52 ?_
      refine cr_iadd X dX9_serve_53 ?_
      refine cr_iald X ((cr_m1 E).at (cr_row S0 9 G 1) rfl) dX9_serve_54 ?_
      refine cr_icmp_eq X 110 dX9_serve_55 rfl ?_ ?_
      · refine cr_aload_n X 0 rfl dX9_serve_110 ?_
        refine cr_iload_n X 1 rfl dX9_serve_111 ?_
        refine cr_callV X (As := [.int p1]) (rest := []) (c_X9_bladeFor Γ.2.1 E hEK S0 G p1) ((cr_m0 E).at (cr_row S0 9 G 0) rfl) rfl 1 gX9_serve_X9_bladeFor rfl rfl rfl (by decide +kernel) ⟨Nat.le_of_ble_eq_true rfl, Nat.le_of_ble_eq_true rfl⟩ (by decide) rfl rfl (Nat.le_of_ble_eq_true rfl) dX9_serve_112 (fun r112_1 => ?_)
        show cr_P Γ E 4 _ 0 0 (cr_us S0 9 G) 115 ([(0, .ref (E.2.1 9 0)), (1, .int p1), (2, .int p2)]) ([.int r112_1]) _
        refine cr_iconst X (-1 : Int32) (by decide) dX9_serve_115 ?_
        refine cr_icmp_ne X 121 dX9_serve_116 rfl ?_ ?_
        · refine cr_iload_n X 2 rfl dX9_serve_121 ?_
          refine cr_aload_n X 0 rfl dX9_serve_122 ?_
          refine cr_iload_n X 1 rfl dX9_serve_123 ?_
          refine cr_callV X (As := [.int p1]) (rest := [.int p2]) (c_X9_limitOf Γ.2.1 E hEK S0 G p1) ((cr_m0 E).at (cr_row S0 9 G 0) rfl) rfl 1 gX9_serve_X9_limitOf rfl rfl rfl (by decide +kernel) ⟨Nat.le_of_ble_eq_true rfl, Nat.le_of_ble_eq_true rfl⟩ (by decide) rfl rfl (Nat.le_of_ble_eq_true rfl) dX9_serve_124 (fun r124_2 => ?_)
          show cr_P Γ E 4 _ 0 0 (cr_us S0 9 G) 127 ([(0, .ref (E.2.1 9 0)), (1, .int p1), (2, .int p2)]) ([.int r124_2, .int p2]) _
          refine cr_icmp_le X 132 dX9_serve_127 rfl ?_ ?_
          · refine cr_aload_n X 0 rfl dX9_serve_132 ?_
            refine cr_get X ((cr_m0 E).at (cr_row S0 9 G 0) rfl) rfl i_X9_serve_X9 0 (by decide) k_X9_serve_1 rfl dX9_serve_133 ?_
            refine cr_sipush X (144 : Int32) (by decide) dX9_serve_136 ?_
            refine cr_iload_n X 1 rfl dX9_serve_139 ?_
            refine cr_iastGk X 144 (cr_m1 E) (fun _ _ => rfl) (by decide) (by decide) dX9_serve_140 (fun G140_3 => ?_)
            refine cr_aload_n X 0 rfl dX9_serve_141 ?_
            refine cr_get X ((cr_m0 E).at (cr_row S0 9 G140_3 0) rfl) rfl i_X9_serve_X9 0 (by decide) k_X9_serve_1 rfl dX9_serve_142 ?_
            refine cr_sipush X (143 : Int32) (by decide) dX9_serve_145 ?_
            refine cr_dup2 X rfl rfl dX9_serve_148 ?_
            refine cr_ialdk X 143 (by decide) (by decide) ((cr_m1 E).at (cr_row S0 9 G140_3 1) rfl) dX9_serve_149 ?_
            refine cr_iconst X (1 : Int32) (by decide) dX9_serve_150 ?_
            refine cr_iadd X dX9_serve_151 ?_
            refine cr_iastGk X 143 (cr_m1 E) (fun _ _ => rfl) (by decide) (by decide) dX9_serve_152 (fun G152_4 => ?_)
            refine cr_iconst X (4 : Int32) (by decide) dX9_serve_153 ?_
            exact cr_iret X rfl rfl dX9_serve_154
          · refine cr_iconst X (3 : Int32) (by decide) dX9_serve_130 ?_
            exact cr_iret X rfl rfl dX9_serve_131
        · refine cr_iconst X (2 : Int32) (by decide) dX9_serve_119 ?_
          exact cr_iret X rfl rfl dX9_serve_120
      · refine cr_sub (lv' := [(0, .ref (E.2.1 9 0)), (1, .int p1)]) [0, 1] rfl ?_
        exact b_X9_serve_58 X S0 p1 G
  · refine cr_aload_n X 0 rfl dX9_serve_12 ?_
    refine cr_get X ((cr_m0 E).at (cr_row S0 9 G 0) rfl) rfl i_X9_serve_X9 0 (by decide) k_X9_serve_1 rfl dX9_serve_13 ?_
    refine cr_sipush X (142 : Int32) (by decide) dX9_serve_16 ?_
    refine cr_dup2 X rfl rfl dX9_serve_19 ?_
    refine cr_ialdk X 142 (by decide) (by decide) ((cr_m1 E).at (cr_row S0 9 G 1) rfl) dX9_serve_20 ?_
    refine cr_iconst X (1 : Int32) (by decide) dX9_serve_21 ?_
    refine cr_isub X dX9_serve_22 ?_
    refine cr_iastGk X 142 (cr_m1 E) (fun _ _ => rfl) (by decide) (by decide) dX9_serve_23 (fun G23_5 => ?_)
    refine cr_goto X 155 dX9_serve_24 rfl ?_
    refine cr_sub (lv' := [(0, .ref (E.2.1 9 0)), (1, .int p1)]) [0, 1] rfl ?_
    exact b_X9_serve_155 X S0 p1 G23_5
theorem c_X9_serve_S (l : Launch) (E : cr_E) (hEK : cr_EK E) (S : cr_S) (p1 : Int32) (p2 : Int32) : cr_M l E yX9_serve wsX9_serve rm_X9_serve [.ref (E.2.1 9 0), .int p1, .int p2] S (cr_vIG S 9) (s_X9_serve  p1 p2 (S.1 9)) := by
  have h := c_X9_serve l E hEK S (S.1 9) p1 p2
  rw [cr_us_self] at h
  exact h
theorem k_X9_full_1 : (Cond.fieldLink RX9 7 "CraneCampaignModel" "z" "[I") ∈ wsX9_full := List.mem_of_getElem? (i := 1) (by rfl)
theorem i_X9_full_X9 : ∀ w ∈ wsX90, w ∈ wsX9_full := by decide +kernel
abbrev rm_X9_full : Room := { frames := 0, cells := 0, slots := 0, locals := 0 }
set_option maxHeartbeats 4000000 in
set_option maxRecDepth 100000 in
theorem c_X9_full (l : Launch) (E : cr_E) (hEK : cr_EK E) (S0 : cr_S) (G : cr_G) (p1 : Int32) (p2 : Int32) : cr_M l E yX9_full wsX9_full rm_X9_full [.ref (E.2.1 9 0), .int p1, .int p2] (cr_us S0 9 G) (cr_vI (cr_us S0 9 G)) (s_X9_full G p1 p2) := by
  refine cr_enter (cc := cX9_full) (nL := 3) (rt := (some .int)) hEK (by decide) rfl (Nat.le_of_ble_eq_true rfl) (fun Γ hΓ X => ?_)
  subst hΓ
  have X : cr_X Γ E cX9_full 3 RX9 wsX9_full rm_X9_full (some .int) := X
  unfold s_X9_full
  show cr_P Γ E 3 _ 0 0 (cr_us S0 9 G) 0 ([(0, .ref (E.2.1 9 0)), (1, .int p1), (2, .int p2)]) [] _
  refine cr_iload_n X 2 rfl dX9_full_0 ?_
  refine cr_iconst X (3 : Int32) (by decide) dX9_full_1 ?_
  refine cr_icmp_lt X 11 dX9_full_2 rfl ?_ ?_
  · refine cr_iconst X (0 : Int32) (by decide) dX9_full_11 ?_
    refine cr_goto X 40 dX9_full_12 rfl ?_
    exact cr_iret X rfl rfl dX9_full_40
  · refine cr_iload_n X 2 rfl dX9_full_5 ?_
    refine cr_bipush X (25 : Int32) (by decide) dX9_full_6 ?_
    refine cr_icmp_le X 15 dX9_full_8 rfl ?_ ?_
    · refine cr_aload_n X 0 rfl dX9_full_15 ?_
      refine cr_get X ((cr_m0 E).at (cr_row S0 9 G 0) rfl) rfl i_X9_full_X9 0 (by decide) k_X9_full_1 rfl dX9_full_16 ?_
      refine cr_bipush X (20 : Int32) (by decide) dX9_full_19 ?_
      refine cr_iload_n X 1 rfl dX9_full_21 ?_
      refine cr_iadd X dX9_full_22 ?_
      refine cr_iald X ((cr_m1 E).at (cr_row S0 9 G 1) rfl) dX9_full_23 ?_
      refine cr_iload_n X 2 rfl dX9_full_24 ?_
      refine cr_bipush X (12 : Int32) (by decide) dX9_full_25 ?_
      refine cr_icmp_ge X 34 dX9_full_27 rfl ?_ ?_
      · refine cr_bipush X (12 : Int32) (by decide) dX9_full_34 ?_
        refine cr_imul X dX9_full_36 ?_
        refine cr_bipush X (12 : Int32) (by decide) dX9_full_37 ?_
        refine cr_idivk X (by decide) dX9_full_39 ?_
        exact cr_iret X rfl rfl dX9_full_40
      · refine cr_iload_n X 2 rfl dX9_full_30 ?_
        refine cr_goto X 36 dX9_full_31 rfl ?_
        refine cr_imul X dX9_full_36 ?_
        refine cr_bipush X (12 : Int32) (by decide) dX9_full_37 ?_
        refine cr_idivk X (by decide) dX9_full_39 ?_
        exact cr_iret X rfl rfl dX9_full_40
    · refine cr_iconst X (0 : Int32) (by decide) dX9_full_11 ?_
      refine cr_goto X 40 dX9_full_12 rfl ?_
      exact cr_iret X rfl rfl dX9_full_40
theorem c_X9_full_S (l : Launch) (E : cr_E) (hEK : cr_EK E) (S : cr_S) (p1 : Int32) (p2 : Int32) : cr_M l E yX9_full wsX9_full rm_X9_full [.ref (E.2.1 9 0), .int p1, .int p2] S (cr_vI S) (s_X9_full (S.1 9) p1 p2) := by
  have h := c_X9_full l E hEK S (S.1 9) p1 p2
  rw [cr_us_self] at h
  exact h
theorem k_X9_use_1 : (Cond.fieldLink RX9 7 "CraneCampaignModel" "z" "[I") ∈ wsX9_use := List.mem_of_getElem? (i := 1) (by rfl)
theorem i_X9_use_X9 : ∀ w ∈ wsX90, w ∈ wsX9_use := by decide +kernel
abbrev rm_X9_use : Room := { frames := 0, cells := 0, slots := 0, locals := 0 }
set_option maxHeartbeats 4000000 in
set_option maxRecDepth 100000 in
theorem b_X9_use_14 {Γ : cr_C} {E : cr_E} (X : cr_X Γ E cX9_use 3 RX9 wsX9_use rm_X9_use none) (S0 : cr_S) : ∀ (n : Nat) (x2 : Int32) (G : cr_G), cr_P Γ E 3 (cr_F Γ E (cr_vVG S0 9)) 0 0 (cr_us S0 9 G) 14 ([(0, .ref (E.2.1 9 0)), (2, .int x2)]) ([]) (s_X9_use_14 n x2 G) := by
  have hEK := X.2.2.2.2.2.2.1
  intro n
  induction n with
  | zero => intro x2 G; exact cr_none
  | succ n ih =>
    intro x2 G
    rw [s_X9_use_14]
    refine cr_iload_n X 1 rfl dX9_use_14 ?_
    refine cr_aload_n X 0 rfl dX9_use_15 ?_
    refine cr_get X ((cr_m0 E).at (cr_row S0 9 G 0) rfl) rfl i_X9_use_X9 0 (by decide) k_X9_use_1 rfl dX9_use_16 ?_
    refine cr_sipush X (156 : Int32) (by decide) dX9_use_19 ?_
    refine cr_ialdk X 156 (by decide) (by decide) ((cr_m1 E).at (cr_row S0 9 G 1) rfl) dX9_use_22 ?_
    refine cr_icmp_ge X 76 dX9_use_23 rfl ?_ ?_
    · exact cr_vret X rfl rfl dX9_use_76
    · refine cr_aload_n X 0 rfl dX9_use_26 ?_
      refine cr_get X ((cr_m0 E).at (cr_row S0 9 G 0) rfl) rfl i_X9_use_X9 0 (by decide) k_X9_use_1 rfl dX9_use_27 ?_
      refine cr_sipush X (157 : Int32) (by decide) dX9_use_30 ?_
      refine cr_iload_n X 1 rfl dX9_use_33 ?_
      refine cr_iadd X dX9_use_34 ?_
      refine cr_aload_n X 0 rfl dX9_use_35 ?_
      refine cr_get X ((cr_m0 E).at (cr_row S0 9 G 0) rfl) rfl i_X9_use_X9 0 (by decide) k_X9_use_1 rfl dX9_use_36 ?_
      refine cr_sipush X (157 : Int32) (by decide) dX9_use_39 ?_
      refine cr_iload_n X 1 rfl dX9_use_42 ?_
      refine cr_iadd X dX9_use_43 ?_
      refine cr_iconst X (1 : Int32) (by decide) dX9_use_44 ?_
      refine cr_iadd X dX9_use_45 ?_
      refine cr_iald X ((cr_m1 E).at (cr_row S0 9 G 1) rfl) dX9_use_46 ?_
      refine cr_iastG X (cr_m1 E) (fun _ _ => rfl) dX9_use_47 (fun G47_2 => ?_)
      refine cr_aload_n X 0 rfl dX9_use_48 ?_
      refine cr_get X ((cr_m0 E).at (cr_row S0 9 G47_2 0) rfl) rfl i_X9_use_X9 0 (by decide) k_X9_use_1 rfl dX9_use_49 ?_
      refine cr_sipush X (167 : Int32) (by decide) dX9_use_52 ?_
      refine cr_iload_n X 1 rfl dX9_use_55 ?_
      refine cr_iadd X dX9_use_56 ?_
      refine cr_aload_n X 0 rfl dX9_use_57 ?_
      refine cr_get X ((cr_m0 E).at (cr_row S0 9 G47_2 0) rfl) rfl i_X9_use_X9 0 (by decide) k_X9_use_1 rfl dX9_use_58 ?_
      refine cr_sipush X (167 : Int32) (by decide) dX9_use_61 ?_
      refine cr_iload_n X 1 rfl dX9_use_64 ?_
      refine cr_iadd X dX9_use_65 ?_
      refine cr_iconst X (1 : Int32) (by decide) dX9_use_66 ?_
      refine cr_iadd X dX9_use_67 ?_
      refine cr_iald X ((cr_m1 E).at (cr_row S0 9 G47_2 1) rfl) dX9_use_68 ?_
      refine cr_iastG X (cr_m1 E) (fun _ _ => rfl) dX9_use_69 (fun G69_3 => ?_)
      refine cr_iinc X (x2 + 1) (fun v70_4 => [(2, .int v70_4), (0, .ref (E.2.1 9 0))]) 1 rfl rfl (fun _ => rfl) (by decide) dX9_use_70 (fun v70_4 => ?_)
      refine cr_goto X 14 dX9_use_73 rfl ?_
      refine cr_sub (lv' := [(0, .ref (E.2.1 9 0)), (2, .int v70_4)]) [1, 0] rfl ?_
      exact ih v70_4 G69_3
set_option maxHeartbeats 4000000 in
set_option maxRecDepth 100000 in
theorem c_X9_use (l : Launch) (E : cr_E) (hEK : cr_EK E) (S0 : cr_S) (G : cr_G) (p1 : Int32) : cr_M l E yX9_use wsX9_use rm_X9_use [.ref (E.2.1 9 0), .int p1] (cr_us S0 9 G) (cr_vVG S0 9) (s_X9_use p1 G) := by
  refine cr_enter (cc := cX9_use) (nL := 3) (rt := none) hEK (by decide) rfl (Nat.le_of_ble_eq_true rfl) (fun Γ hΓ X => ?_)
  subst hΓ
  have X : cr_X Γ E cX9_use 3 RX9 wsX9_use rm_X9_use none := X
  unfold s_X9_use
  show cr_P Γ E 3 _ 0 0 (cr_us S0 9 G) 0 ([(0, .ref (E.2.1 9 0)), (1, .int p1)]) [] _
  refine cr_aload_n X 0 rfl dX9_use_0 ?_
  refine cr_get X ((cr_m0 E).at (cr_row S0 9 G 0) rfl) rfl i_X9_use_X9 0 (by decide) k_X9_use_1 rfl dX9_use_1 ?_
  refine cr_sipush X (156 : Int32) (by decide) dX9_use_4 ?_
  refine cr_dup2 X rfl rfl dX9_use_7 ?_
  refine cr_ialdk X 156 (by decide) (by decide) ((cr_m1 E).at (cr_row S0 9 G 1) rfl) dX9_use_8 ?_
  refine cr_iconst X (1 : Int32) (by decide) dX9_use_9 ?_
  refine cr_isub X dX9_use_10 ?_
  refine cr_iastGk X 156 (cr_m1 E) (fun _ _ => rfl) (by decide) (by decide) dX9_use_11 (fun G11_1 => ?_)
  refine cr_iload_n X 1 rfl dX9_use_12 ?_
  refine cr_istore_n X ([(2, .int p1), (0, .ref (E.2.1 9 0)), (1, .int p1)]) rfl (by decide) dX9_use_13 ?_
  refine cr_sub (lv' := [(0, .ref (E.2.1 9 0)), (2, .int p1)]) [1, 0] rfl ?_
  exact b_X9_use_14 X S0 1200 p1 G11_1
theorem c_X9_use_S (l : Launch) (E : cr_E) (hEK : cr_EK E) (S : cr_S) (p1 : Int32) : cr_M l E yX9_use wsX9_use rm_X9_use [.ref (E.2.1 9 0), .int p1] S (cr_vVG S 9) (s_X9_use  p1 (S.1 9)) := by
  have h := c_X9_use l E hEK S (S.1 9) p1
  rw [cr_us_self] at h
  exact h
theorem k_X9_goHour_1 : (Cond.fieldLink RX9 7 "CraneCampaignModel" "z" "[I") ∈ wsX9_goHour := List.mem_of_getElem? (i := 1) (by rfl)
theorem i_X9_goHour_X9 : ∀ w ∈ wsX90, w ∈ wsX9_goHour := by decide +kernel
abbrev rm_X9_goHour : Room := { frames := 2, cells := 0, slots := 0, locals := 50 }
set_option maxHeartbeats 4000000 in
set_option maxRecDepth 100000 in
theorem b_X9_goHour_397 {Γ : cr_C} {E : cr_E} (X : cr_X Γ E cX9_goHour 9 RX9 wsX9_goHour rm_X9_goHour (some .int)) (S0 : cr_S) (k356 : Int32 → Int32 → Int32 → Int32 → cr_G → Option (Int32 × cr_G)) (hk356 : ∀ (x1 : Int32) (x3 : Int32) (x4 : Int32) (x5 : Int32) (G : cr_G), cr_P Γ E 9 (cr_F Γ E (cr_vIG S0 9)) 0 0 (cr_us S0 9 G) 356 ([(0, .ref (E.2.1 9 0)), (1, .int x1), (3, .int x3), (4, .int x4), (5, .int x5)]) [] (k356 x1 x3 x4 x5 G)) (x1 : Int32) (x3 : Int32) (x4 : Int32) (x5 : Int32) (G : cr_G) : cr_P Γ E 9 (cr_F Γ E (cr_vIG S0 9)) 0 0 (cr_us S0 9 G) 397 ([(0, .ref (E.2.1 9 0)), (1, .int x1), (3, .int x3), (4, .int x4), (5, .int x5)]) ([]) (s_X9_goHour_397 k356 x1 x3 x4 x5 G) := by
  have hEK := X.2.2.2.2.2.2.1
  unfold s_X9_goHour_397
  refine cr_aload_n X 0 rfl dX9_goHour_397 ?_
  refine cr_get X ((cr_m0 E).at (cr_row S0 9 G 0) rfl) rfl i_X9_goHour_X9 0 (by decide) k_X9_goHour_1 rfl dX9_goHour_398 ?_
  refine cr_bipush X (40 : Int32) (by decide) dX9_goHour_401 ?_
  refine cr_iload X 4 rfl dX9_goHour_403 ?_
  refine cr_iadd X dX9_goHour_405 ?_
  refine cr_dup2 X rfl rfl dX9_goHour_406 ?_
  refine cr_iald X ((cr_m1 E).at (cr_row S0 9 G 1) rfl) dX9_goHour_407 ?_
  refine cr_iconst X (1 : Int32) (by decide) dX9_goHour_408 ?_
  refine cr_iadd X dX9_goHour_409 ?_
  refine cr_iastG X (cr_m1 E) (fun _ _ => rfl) dX9_goHour_410 (fun G410_17 => ?_)
  refine cr_aload_n X 0 rfl dX9_goHour_411 ?_
  refine cr_get X ((cr_m0 E).at (cr_row S0 9 G410_17 0) rfl) rfl i_X9_goHour_X9 0 (by decide) k_X9_goHour_1 rfl dX9_goHour_412 ?_
  refine cr_bipush X (40 : Int32) (by decide) dX9_goHour_415 ?_
  refine cr_iload X 4 rfl dX9_goHour_417 ?_
  refine cr_iadd X dX9_goHour_419 ?_
  refine cr_iald X ((cr_m1 E).at (cr_row S0 9 G410_17 1) rfl) dX9_goHour_420 ?_
  refine cr_aload_n X 0 rfl dX9_goHour_421 ?_
  refine cr_get X ((cr_m0 E).at (cr_row S0 9 G410_17 0) rfl) rfl i_X9_goHour_X9 0 (by decide) k_X9_goHour_1 rfl dX9_goHour_422 ?_
  refine cr_bipush X (74 : Int32) (by decide) dX9_goHour_425 ?_
  refine cr_ialdk X 74 (by decide) (by decide) ((cr_m1 E).at (cr_row S0 9 G410_17 1) rfl) dX9_goHour_427 ?_
  refine cr_icmp_lt X 456 dX9_goHour_428 rfl ?_ ?_
  · refine cr_iinc X (x5 + 1) (fun v456_18 => [(5, .int v456_18), (0, .ref (E.2.1 9 0)), (1, .int x1), (3, .int x3), (4, .int x4)]) 4 rfl rfl (fun _ => rfl) (by decide) dX9_goHour_456 (fun v456_18 => ?_)
    refine cr_goto X 356 dX9_goHour_459 rfl ?_
    refine cr_sub (lv' := [(0, .ref (E.2.1 9 0)), (1, .int x1), (3, .int x3), (4, .int x4), (5, .int v456_18)]) [1, 2, 3, 4, 0] rfl ?_
    exact hk356 x1 x3 x4 v456_18 G410_17
  · refine cr_aload_n X 0 rfl dX9_goHour_431 ?_
    refine cr_get X ((cr_m0 E).at (cr_row S0 9 G410_17 0) rfl) rfl i_X9_goHour_X9 0 (by decide) k_X9_goHour_1 rfl dX9_goHour_432 ?_
    refine cr_bipush X (40 : Int32) (by decide) dX9_goHour_435 ?_
    refine cr_iload X 4 rfl dX9_goHour_437 ?_
    refine cr_iadd X dX9_goHour_439 ?_
    refine cr_iconst X (0 : Int32) (by decide) dX9_goHour_440 ?_
    refine cr_iastG X (cr_m1 E) (fun _ _ => rfl) dX9_goHour_441 (fun G441_19 => ?_)
    refine cr_aload_n X 0 rfl dX9_goHour_442 ?_
    refine cr_get X ((cr_m0 E).at (cr_row S0 9 G441_19 0) rfl) rfl i_X9_goHour_X9 0 (by decide) k_X9_goHour_1 rfl dX9_goHour_443 ?_
    refine cr_bipush X (30 : Int32) (by decide) dX9_goHour_446 ?_
    refine cr_iload X 4 rfl dX9_goHour_448 ?_
    refine cr_iadd X dX9_goHour_450 ?_
    refine cr_dup2 X rfl rfl dX9_goHour_451 ?_
    refine cr_iald X ((cr_m1 E).at (cr_row S0 9 G441_19 1) rfl) dX9_goHour_452 ?_
    refine cr_iconst X (1 : Int32) (by decide) dX9_goHour_453 ?_
    refine cr_iadd X dX9_goHour_454 ?_
    refine cr_iastG X (cr_m1 E) (fun _ _ => rfl) dX9_goHour_455 (fun G455_20 => ?_)
    refine cr_iinc X (x5 + 1) (fun v456_21 => [(5, .int v456_21), (0, .ref (E.2.1 9 0)), (1, .int x1), (3, .int x3), (4, .int x4)]) 4 rfl rfl (fun _ => rfl) (by decide) dX9_goHour_456 (fun v456_21 => ?_)
    refine cr_goto X 356 dX9_goHour_459 rfl ?_
    refine cr_sub (lv' := [(0, .ref (E.2.1 9 0)), (1, .int x1), (3, .int x3), (4, .int x4), (5, .int v456_21)]) [1, 2, 3, 4, 0] rfl ?_
    exact hk356 x1 x3 x4 v456_21 G455_20
set_option maxHeartbeats 4000000 in
set_option maxRecDepth 100000 in
theorem b_X9_goHour_356 {Γ : cr_C} {E : cr_E} (X : cr_X Γ E cX9_goHour 9 RX9 wsX9_goHour rm_X9_goHour (some .int)) (S0 : cr_S) : ∀ (n : Nat) (x1 : Int32) (x3 : Int32) (x4 : Int32) (x5 : Int32) (G : cr_G), cr_P Γ E 9 (cr_F Γ E (cr_vIG S0 9)) 0 0 (cr_us S0 9 G) 356 ([(0, .ref (E.2.1 9 0)), (1, .int x1), (3, .int x3), (4, .int x4), (5, .int x5)]) ([]) (s_X9_goHour_356 n x1 x3 x4 x5 G) := by
  have hEK := X.2.2.2.2.2.2.1
  intro n
  induction n with
  | zero => intro x1 x3 x4 x5 G; exact cr_none
  | succ n ih =>
    intro x1 x3 x4 x5 G
    rw [s_X9_goHour_356]
    refine cr_iload X 4 rfl dX9_goHour_356 ?_
    refine cr_aload_n X 0 rfl dX9_goHour_358 ?_
    refine cr_get X ((cr_m0 E).at (cr_row S0 9 G 0) rfl) rfl i_X9_goHour_X9 0 (by decide) k_X9_goHour_1 rfl dX9_goHour_359 ?_
    refine cr_bipush X (70 : Int32) (by decide) dX9_goHour_362 ?_
    refine cr_ialdk X 70 (by decide) (by decide) ((cr_m1 E).at (cr_row S0 9 G 1) rfl) dX9_goHour_364 ?_
    refine cr_icmp_ge X 462 dX9_goHour_365 rfl ?_ ?_
    · refine cr_aload_n X 0 rfl dX9_goHour_462 ?_
      refine cr_get X ((cr_m0 E).at (cr_row S0 9 G 0) rfl) rfl i_X9_goHour_X9 0 (by decide) k_X9_goHour_1 rfl dX9_goHour_463 ?_
      refine cr_sipush X (182 : Int32) (by decide) dX9_goHour_466 ?_
      refine cr_dup2 X rfl rfl dX9_goHour_469 ?_
      refine cr_ialdk X 182 (by decide) (by decide) ((cr_m1 E).at (cr_row S0 9 G 1) rfl) dX9_goHour_470 ?_
      refine cr_iconst X (1 : Int32) (by decide) dX9_goHour_471 ?_
      refine cr_iadd X dX9_goHour_472 ?_
      refine cr_iastGk X 182 (cr_m1 E) (fun _ _ => rfl) (by decide) (by decide) dX9_goHour_473 (fun G473_13 => ?_)
      refine cr_iload X 3 rfl dX9_goHour_474 ?_
      exact cr_iret X rfl rfl dX9_goHour_476
    · refine cr_aload_n X 0 rfl dX9_goHour_368 ?_
      refine cr_get X ((cr_m0 E).at (cr_row S0 9 G 0) rfl) rfl i_X9_goHour_X9 0 (by decide) k_X9_goHour_1 rfl dX9_goHour_369 ?_
      refine cr_bipush X (30 : Int32) (by decide) dX9_goHour_372 ?_
      refine cr_iload X 4 rfl dX9_goHour_374 ?_
      refine cr_iadd X dX9_goHour_376 ?_
      refine cr_iald X ((cr_m1 E).at (cr_row S0 9 G 1) rfl) dX9_goHour_377 ?_
      refine cr_iconst X (1 : Int32) (by decide) dX9_goHour_378 ?_
      refine cr_iconst X (3 : Int32) (by decide) dX9_goHour_379 ?_
      refine cr_callS X (As := [.int (((G 1) (((30 : Int32) + x5)).toNatClampNeg)), .int ((1 : Int32)), .int ((3 : Int32))]) (rest := []) (c_X9_within Γ.2.1 E hEK ((cr_us S0 9 G)) (((G 1) (((30 : Int32) + x5)).toNatClampNeg)) ((1 : Int32)) ((3 : Int32))) 3 gX9_goHour_X9_within rfl rfl rfl (by decide +kernel) ⟨Nat.le_of_ble_eq_true rfl, Nat.le_of_ble_eq_true rfl⟩ (by decide) rfl rfl (Nat.le_of_ble_eq_true rfl) dX9_goHour_380 (fun r380_14 => ?_)
      show cr_P Γ E 9 _ 0 0 (cr_us S0 9 G) 383 ([(0, .ref (E.2.1 9 0)), (1, .int x1), (3, .int x3), (4, .int x4), (5, .int x5)]) ([.int (cr_b r380_14)]) _
      refine cr_ifb_eq X 456 dX9_goHour_383 rfl ?_ ?_
      · refine cr_iinc X (x5 + 1) (fun v456_15 => [(5, .int v456_15), (0, .ref (E.2.1 9 0)), (1, .int x1), (3, .int x3), (4, .int x4)]) 4 rfl rfl (fun _ => rfl) (by decide) dX9_goHour_456 (fun v456_15 => ?_)
        refine cr_goto X 356 dX9_goHour_459 rfl ?_
        refine cr_sub (lv' := [(0, .ref (E.2.1 9 0)), (1, .int x1), (3, .int x3), (4, .int x4), (5, .int v456_15)]) [1, 2, 3, 4, 0] rfl ?_
        exact ih x1 x3 x4 v456_15 G
      · refine cr_iload X 4 rfl dX9_goHour_386 ?_
        refine cr_iload_n X 1 rfl dX9_goHour_388 ?_
        refine cr_icmp_ne X 397 dX9_goHour_389 rfl ?_ ?_
        · refine cr_sub (lv' := [(0, .ref (E.2.1 9 0)), (1, .int x1), (3, .int x3), (4, .int x4), (5, .int x5)]) [0, 1, 2, 3, 4] rfl ?_
          exact b_X9_goHour_397 X S0 (fun x1a x3a x4a x5a Ga => s_X9_goHour_356 n x1a x3a x4a x5a Ga) ih x1 x3 x4 x5 G
        · refine cr_iload_n X 2 rfl dX9_goHour_392 ?_
          refine cr_iconst X (4 : Int32) (by decide) dX9_goHour_393 ?_
          refine cr_icmp_eq X 456 dX9_goHour_394 rfl ?_ ?_
          · refine cr_iinc X (x5 + 1) (fun v456_16 => [(5, .int v456_16), (0, .ref (E.2.1 9 0)), (1, .int x1), (3, .int x3), (4, .int x4)]) 4 rfl rfl (fun _ => rfl) (by decide) dX9_goHour_456 (fun v456_16 => ?_)
            refine cr_goto X 356 dX9_goHour_459 rfl ?_
            refine cr_sub (lv' := [(0, .ref (E.2.1 9 0)), (1, .int x1), (3, .int x3), (4, .int x4), (5, .int v456_16)]) [1, 2, 3, 4, 0] rfl ?_
            exact ih x1 x3 x4 v456_16 G
          · refine cr_sub (lv' := [(0, .ref (E.2.1 9 0)), (1, .int x1), (3, .int x3), (4, .int x4), (5, .int x5)]) [0, 1, 2, 3, 4] rfl ?_
            exact b_X9_goHour_397 X S0 (fun x1a x3a x4a x5a Ga => s_X9_goHour_356 n x1a x3a x4a x5a Ga) ih x1 x3 x4 x5 G
set_option maxHeartbeats 4000000 in
set_option maxRecDepth 100000 in
theorem b_X9_goHour_218 {Γ : cr_C} {E : cr_E} (X : cr_X Γ E cX9_goHour 9 RX9 wsX9_goHour rm_X9_goHour (some .int)) (S0 : cr_S) (k158 : Int32 → Int32 → Int32 → Int32 → Int32 → cr_G → Option (Int32 × cr_G)) (hk158 : ∀ (x1 : Int32) (x2 : Int32) (x3 : Int32) (x4 : Int32) (x5 : Int32) (G : cr_G), cr_P Γ E 9 (cr_F Γ E (cr_vIG S0 9)) 0 0 (cr_us S0 9 G) 158 ([(0, .ref (E.2.1 9 0)), (1, .int x1), (2, .int x2), (3, .int x3), (4, .int x4), (5, .int x5)]) [] (k158 x1 x2 x3 x4 x5 G)) (x1 : Int32) (x2 : Int32) (x3 : Int32) (x4 : Int32) (x5 : Int32) (x6 : Int32) (x7 : Int32) (y0 : Int32) (G : cr_G) : cr_P Γ E 9 (cr_F Γ E (cr_vIG S0 9)) 0 0 (cr_us S0 9 G) 218 ([(0, .ref (E.2.1 9 0)), (1, .int x1), (2, .int x2), (3, .int x3), (4, .int x4), (5, .int x5), (6, .int x6), (7, .int x7)]) ([.int y0]) (s_X9_goHour_218 k158 x1 x2 x3 x4 x5 x6 x7 y0 G) := by
  have hEK := X.2.2.2.2.2.2.1
  unfold s_X9_goHour_218
  refine cr_istore X ([(8, .int y0), (0, .ref (E.2.1 9 0)), (1, .int x1), (2, .int x2), (3, .int x3), (4, .int x4), (5, .int x5), (6, .int x6), (7, .int x7)]) rfl (by decide) dX9_goHour_218 ?_
  refine cr_aload_n X 1 rfl dX9_goHour_220 ?_
  refine cr_get X ((cr_m0 E).at (cr_row S0 9 G 0) rfl) rfl i_X9_goHour_X9 0 (by decide) k_X9_goHour_1 rfl dX9_goHour_221 ?_
  refine cr_bipush X (50 : Int32) (by decide) dX9_goHour_224 ?_
  refine cr_iload X 6 rfl dX9_goHour_226 ?_
  refine cr_iadd X dX9_goHour_228 ?_
  refine cr_dup2 X rfl rfl dX9_goHour_229 ?_
  refine cr_iald X ((cr_m1 E).at (cr_row S0 9 G 1) rfl) dX9_goHour_230 ?_
  refine cr_iload X 0 rfl dX9_goHour_231 ?_
  refine cr_iadd X dX9_goHour_233 ?_
  refine cr_iastG X (cr_m1 E) (fun _ _ => rfl) dX9_goHour_234 (fun G234_22 => ?_)
  refine cr_aload_n X 1 rfl dX9_goHour_235 ?_
  refine cr_get X ((cr_m0 E).at (cr_row S0 9 G234_22 0) rfl) rfl i_X9_goHour_X9 0 (by decide) k_X9_goHour_1 rfl dX9_goHour_236 ?_
  refine cr_bipush X (60 : Int32) (by decide) dX9_goHour_239 ?_
  refine cr_iload X 6 rfl dX9_goHour_241 ?_
  refine cr_iadd X dX9_goHour_243 ?_
  refine cr_dup2 X rfl rfl dX9_goHour_244 ?_
  refine cr_iald X ((cr_m1 E).at (cr_row S0 9 G234_22 1) rfl) dX9_goHour_245 ?_
  refine cr_iload X 7 rfl dX9_goHour_246 ?_
  refine cr_iload X 0 rfl dX9_goHour_248 ?_
  refine cr_isub X dX9_goHour_250 ?_
  refine cr_iadd X dX9_goHour_251 ?_
  refine cr_iastG X (cr_m1 E) (fun _ _ => rfl) dX9_goHour_252 (fun G252_23 => ?_)
  refine cr_aload_n X 1 rfl dX9_goHour_253 ?_
  refine cr_get X ((cr_m0 E).at (cr_row S0 9 G252_23 0) rfl) rfl i_X9_goHour_X9 0 (by decide) k_X9_goHour_1 rfl dX9_goHour_254 ?_
  refine cr_sipush X (177 : Int32) (by decide) dX9_goHour_257 ?_
  refine cr_iload X 8 rfl dX9_goHour_260 ?_
  refine cr_iadd X dX9_goHour_262 ?_
  refine cr_dup2 X rfl rfl dX9_goHour_263 ?_
  refine cr_iald X ((cr_m1 E).at (cr_row S0 9 G252_23 1) rfl) dX9_goHour_264 ?_
  refine cr_iload X 0 rfl dX9_goHour_265 ?_
  refine cr_iadd X dX9_goHour_267 ?_
  refine cr_iastG X (cr_m1 E) (fun _ _ => rfl) dX9_goHour_268 (fun G268_24 => ?_)
  refine cr_iload X 5 rfl dX9_goHour_269 ?_
  refine cr_iload X 0 rfl dX9_goHour_271 ?_
  refine cr_iadd X dX9_goHour_273 ?_
  refine cr_istoreb X (fun v274_25 => [(4, .int v274_25), (8, .int y0), (0, .ref (E.2.1 9 0)), (1, .int x1), (2, .int x2), (3, .int x3), (5, .int x5), (6, .int x6), (7, .int x7)]) (fun _ => rfl) (by decide) dX9_goHour_274 (fun v274_25 => ?_)
  refine cr_iinc X (x5 + 1) (fun v276_26 => [(5, .int v276_26), (4, .int v274_25), (8, .int y0), (0, .ref (E.2.1 9 0)), (1, .int x1), (2, .int x2), (3, .int x3), (6, .int x6), (7, .int x7)]) 6 rfl rfl (fun _ => rfl) (by decide) dX9_goHour_276 (fun v276_26 => ?_)
  refine cr_goto X 158 dX9_goHour_279 rfl ?_
  refine cr_sub (lv' := [(0, .ref (E.2.1 9 0)), (1, .int x1), (2, .int x2), (3, .int x3), (4, .int v274_25), (5, .int v276_26)]) [3, 4, 5, 6, 1, 0] rfl ?_
  exact hk158 x1 x2 x3 v274_25 v276_26 G268_24
set_option maxHeartbeats 4000000 in
set_option maxRecDepth 100000 in
theorem b_X9_goHour_190 {Γ : cr_C} {E : cr_E} (X : cr_X Γ E cX9_goHour 9 RX9 wsX9_goHour rm_X9_goHour (some .int)) (S0 : cr_S) (k158 : Int32 → Int32 → Int32 → Int32 → Int32 → cr_G → Option (Int32 × cr_G)) (hk158 : ∀ (x1 : Int32) (x2 : Int32) (x3 : Int32) (x4 : Int32) (x5 : Int32) (G : cr_G), cr_P Γ E 9 (cr_F Γ E (cr_vIG S0 9)) 0 0 (cr_us S0 9 G) 158 ([(0, .ref (E.2.1 9 0)), (1, .int x1), (2, .int x2), (3, .int x3), (4, .int x4), (5, .int x5)]) [] (k158 x1 x2 x3 x4 x5 G)) (x1 : Int32) (x2 : Int32) (x3 : Int32) (x4 : Int32) (x5 : Int32) (x6 : Int32) (y0 : Int32) (G : cr_G) : cr_P Γ E 9 (cr_F Γ E (cr_vIG S0 9)) 0 0 (cr_us S0 9 G) 190 ([(0, .ref (E.2.1 9 0)), (1, .int x1), (2, .int x2), (3, .int x3), (4, .int x4), (5, .int x5), (6, .int x6)]) ([.int y0]) (s_X9_goHour_190 k158 x1 x2 x3 x4 x5 x6 y0 G) := by
  have hEK := X.2.2.2.2.2.2.1
  unfold s_X9_goHour_190
  refine cr_istore X ([(7, .int y0), (0, .ref (E.2.1 9 0)), (1, .int x1), (2, .int x2), (3, .int x3), (4, .int x4), (5, .int x5), (6, .int x6)]) rfl (by decide) dX9_goHour_190 ?_
  refine cr_iload X 0 rfl dX9_goHour_192 ?_
  refine cr_iconst X (4 : Int32) (by decide) dX9_goHour_194 ?_
  refine cr_icmp_ne X 203 dX9_goHour_195 rfl ?_ ?_
  · refine cr_iload X 7 rfl dX9_goHour_203 ?_
    refine cr_aload_n X 1 rfl dX9_goHour_205 ?_
    refine cr_get X ((cr_m0 E).at (cr_row S0 9 G 0) rfl) rfl i_X9_goHour_X9 0 (by decide) k_X9_goHour_1 rfl dX9_goHour_206 ?_
    refine cr_bipush X (30 : Int32) (by decide) dX9_goHour_209 ?_
    refine cr_iload X 6 rfl dX9_goHour_211 ?_
    refine cr_iadd X dX9_goHour_213 ?_
    refine cr_iald X ((cr_m1 E).at (cr_row S0 9 G 1) rfl) dX9_goHour_214 ?_
    refine cr_imul X dX9_goHour_215 ?_
    refine cr_iconst X (4 : Int32) (by decide) dX9_goHour_216 ?_
    refine cr_idivk X (by decide) dX9_goHour_217 ?_
    refine cr_sub (lv' := [(0, .ref (E.2.1 9 0)), (1, .int x1), (2, .int x2), (3, .int x3), (4, .int x4), (5, .int x5), (6, .int x6), (7, .int y0)]) [1, 2, 3, 4, 5, 6, 7, 0] rfl ?_
    exact b_X9_goHour_218 X S0 k158 hk158 x1 x2 x3 x4 x5 x6 y0 (((x6 * ((G 1) (((30 : Int32) + x5)).toNatClampNeg)) / (4 : Int32))) G
  · refine cr_iload X 7 rfl dX9_goHour_198 ?_
    refine cr_goto X 218 dX9_goHour_200 rfl ?_
    refine cr_sub (lv' := [(0, .ref (E.2.1 9 0)), (1, .int x1), (2, .int x2), (3, .int x3), (4, .int x4), (5, .int x5), (6, .int x6), (7, .int y0)]) [1, 2, 3, 4, 5, 6, 7, 0] rfl ?_
    exact b_X9_goHour_218 X S0 k158 hk158 x1 x2 x3 x4 x5 x6 y0 x6 G
set_option maxHeartbeats 4000000 in
set_option maxRecDepth 100000 in
theorem b_X9_goHour_158 {Γ : cr_C} {E : cr_E} (X : cr_X Γ E cX9_goHour 9 RX9 wsX9_goHour rm_X9_goHour (some .int)) (S0 : cr_S) : ∀ (n : Nat) (x1 : Int32) (x2 : Int32) (x3 : Int32) (x4 : Int32) (x5 : Int32) (G : cr_G), cr_P Γ E 9 (cr_F Γ E (cr_vIG S0 9)) 0 0 (cr_us S0 9 G) 158 ([(0, .ref (E.2.1 9 0)), (1, .int x1), (2, .int x2), (3, .int x3), (4, .int x4), (5, .int x5)]) ([]) (s_X9_goHour_158 n x1 x2 x3 x4 x5 G) := by
  have hEK := X.2.2.2.2.2.2.1
  intro n
  induction n with
  | zero => intro x1 x2 x3 x4 x5 G; exact cr_none
  | succ n ih =>
    intro x1 x2 x3 x4 x5 G
    rw [s_X9_goHour_158]
    refine cr_iload X 5 rfl dX9_goHour_158 ?_
    refine cr_aload_n X 0 rfl dX9_goHour_160 ?_
    refine cr_get X ((cr_m0 E).at (cr_row S0 9 G 0) rfl) rfl i_X9_goHour_X9 0 (by decide) k_X9_goHour_1 rfl dX9_goHour_161 ?_
    refine cr_bipush X (70 : Int32) (by decide) dX9_goHour_164 ?_
    refine cr_ialdk X 70 (by decide) (by decide) ((cr_m1 E).at (cr_row S0 9 G 1) rfl) dX9_goHour_166 ?_
    refine cr_icmp_ge X 282 dX9_goHour_167 rfl ?_ ?_
    · refine cr_iload_n X 3 rfl dX9_goHour_282 ?_
      refine cr_iconst X (4 : Int32) (by decide) dX9_goHour_283 ?_
      refine cr_icmp_ne X 353 dX9_goHour_284 rfl ?_ ?_
      · refine cr_iconst X (0 : Int32) (by decide) dX9_goHour_353 ?_
        refine cr_istore X ([(5, .int ((0 : Int32))), (0, .ref (E.2.1 9 0)), (1, .int x1), (2, .int x2), (3, .int x3), (4, .int x4)]) rfl (by decide) dX9_goHour_354 ?_
        refine cr_sub (lv' := [(0, .ref (E.2.1 9 0)), (1, .int x1), (3, .int x3), (4, .int x4), (5, .int ((0 : Int32)))]) [1, 2, 4, 5, 0] rfl ?_
        exact b_X9_goHour_356 X S0 1200 x1 x3 x4 ((0 : Int32)) G
      · refine cr_aload_n X 0 rfl dX9_goHour_287 ?_
        refine cr_get X ((cr_m0 E).at (cr_row S0 9 G 0) rfl) rfl i_X9_goHour_X9 0 (by decide) k_X9_goHour_1 rfl dX9_goHour_288 ?_
        refine cr_sipush X (143 : Int32) (by decide) dX9_goHour_291 ?_
        refine cr_ialdk X 143 (by decide) (by decide) ((cr_m1 E).at (cr_row S0 9 G 1) rfl) dX9_goHour_294 ?_
        refine cr_aload_n X 0 rfl dX9_goHour_295 ?_
        refine cr_get X ((cr_m0 E).at (cr_row S0 9 G 0) rfl) rfl i_X9_goHour_X9 0 (by decide) k_X9_goHour_1 rfl dX9_goHour_296 ?_
        refine cr_bipush X (73 : Int32) (by decide) dX9_goHour_299 ?_
        refine cr_ialdk X 73 (by decide) (by decide) ((cr_m1 E).at (cr_row S0 9 G 1) rfl) dX9_goHour_301 ?_
        refine cr_aload_n X 0 rfl dX9_goHour_302 ?_
        refine cr_get X ((cr_m0 E).at (cr_row S0 9 G 0) rfl) rfl i_X9_goHour_X9 0 (by decide) k_X9_goHour_1 rfl dX9_goHour_303 ?_
        refine cr_bipush X (30 : Int32) (by decide) dX9_goHour_306 ?_
        refine cr_iload_n X 1 rfl dX9_goHour_308 ?_
        refine cr_iadd X dX9_goHour_309 ?_
        refine cr_iald X ((cr_m1 E).at (cr_row S0 9 G 1) rfl) dX9_goHour_310 ?_
        refine cr_imul X dX9_goHour_311 ?_
        refine cr_icmp_lt X 353 dX9_goHour_312 rfl ?_ ?_
        · refine cr_iconst X (0 : Int32) (by decide) dX9_goHour_353 ?_
          refine cr_istore X ([(5, .int ((0 : Int32))), (0, .ref (E.2.1 9 0)), (1, .int x1), (2, .int x2), (3, .int x3), (4, .int x4)]) rfl (by decide) dX9_goHour_354 ?_
          refine cr_sub (lv' := [(0, .ref (E.2.1 9 0)), (1, .int x1), (3, .int x3), (4, .int x4), (5, .int ((0 : Int32)))]) [1, 2, 4, 5, 0] rfl ?_
          exact b_X9_goHour_356 X S0 1200 x1 x3 x4 ((0 : Int32)) G
        · refine cr_aload_n X 0 rfl dX9_goHour_315 ?_
          refine cr_get X ((cr_m0 E).at (cr_row S0 9 G 0) rfl) rfl i_X9_goHour_X9 0 (by decide) k_X9_goHour_1 rfl dX9_goHour_316 ?_
          refine cr_bipush X (30 : Int32) (by decide) dX9_goHour_319 ?_
          refine cr_iload_n X 1 rfl dX9_goHour_321 ?_
          refine cr_iadd X dX9_goHour_322 ?_
          refine cr_iconst X (0 : Int32) (by decide) dX9_goHour_323 ?_
          refine cr_iastG X (cr_m1 E) (fun _ _ => rfl) dX9_goHour_324 (fun G324_6 => ?_)
          refine cr_aload_n X 0 rfl dX9_goHour_325 ?_
          refine cr_get X ((cr_m0 E).at (cr_row S0 9 G324_6 0) rfl) rfl i_X9_goHour_X9 0 (by decide) k_X9_goHour_1 rfl dX9_goHour_326 ?_
          refine cr_bipush X (40 : Int32) (by decide) dX9_goHour_329 ?_
          refine cr_iload_n X 1 rfl dX9_goHour_331 ?_
          refine cr_iadd X dX9_goHour_332 ?_
          refine cr_iconst X (0 : Int32) (by decide) dX9_goHour_333 ?_
          refine cr_iastG X (cr_m1 E) (fun _ _ => rfl) dX9_goHour_334 (fun G334_7 => ?_)
          refine cr_aload_n X 0 rfl dX9_goHour_335 ?_
          refine cr_aload_n X 0 rfl dX9_goHour_336 ?_
          refine cr_iload_n X 1 rfl dX9_goHour_337 ?_
          refine cr_callV X (As := [.int x1]) (rest := [.ref (E.2.1 9 0)]) (c_X9_bladeFor Γ.2.1 E hEK S0 G334_7 x1) ((cr_m0 E).at (cr_row S0 9 G334_7 0) rfl) rfl 1 gX9_goHour_X9_bladeFor rfl rfl rfl (by decide +kernel) ⟨Nat.le_of_ble_eq_true rfl, Nat.le_of_ble_eq_true rfl⟩ (by decide) rfl rfl (Nat.le_of_ble_eq_true rfl) dX9_goHour_338 (fun r338_8 => ?_)
          show cr_P Γ E 9 _ 0 0 (cr_us S0 9 G334_7) 341 ([(0, .ref (E.2.1 9 0)), (1, .int x1), (2, .int x2), (3, .int x3), (4, .int x4), (5, .int x5)]) ([.int r338_8, .ref (E.2.1 9 0)]) _
          refine cr_callV X (As := [.int r338_8]) (rest := []) (c_X9_use Γ.2.1 E hEK S0 G334_7 r338_8) ((cr_m0 E).at (cr_row S0 9 G334_7 0) rfl) rfl 1 gX9_goHour_X9_use rfl rfl rfl (by decide +kernel) ⟨Nat.le_of_ble_eq_true rfl, Nat.le_of_ble_eq_true rfl⟩ (by decide) rfl rfl (Nat.le_of_ble_eq_true rfl) dX9_goHour_341 (fun r341_9 => ?_)
          show cr_P Γ E 9 _ 0 0 (cr_us S0 9 r341_9) 344 ([(0, .ref (E.2.1 9 0)), (1, .int x1), (2, .int x2), (3, .int x3), (4, .int x4), (5, .int x5)]) ([]) _
          refine cr_aload_n X 0 rfl dX9_goHour_344 ?_
          refine cr_callV X (As := []) (rest := []) (c_X9_forget Γ.2.1 E hEK S0 r341_9) ((cr_m0 E).at (cr_row S0 9 r341_9 0) rfl) rfl 0 gX9_goHour_X9_forget rfl rfl rfl (by decide +kernel) ⟨Nat.le_of_ble_eq_true rfl, Nat.le_of_ble_eq_true rfl⟩ (by decide) rfl rfl (Nat.le_of_ble_eq_true rfl) dX9_goHour_345 (fun r345_10 => ?_)
          show cr_P Γ E 9 _ 0 0 (cr_us S0 9 r345_10) 348 ([(0, .ref (E.2.1 9 0)), (1, .int x1), (2, .int x2), (3, .int x3), (4, .int x4), (5, .int x5)]) ([]) _
          refine cr_aload_n X 0 rfl dX9_goHour_348 ?_
          refine cr_iconst X (0 : Int32) (by decide) dX9_goHour_349 ?_
          refine cr_callV X (As := [.int ((0 : Int32))]) (rest := []) (c_X9_takeOff Γ.2.1 E hEK S0 r345_10 ((0 : Int32))) ((cr_m0 E).at (cr_row S0 9 r345_10 0) rfl) rfl 1 gX9_goHour_X9_takeOff rfl rfl rfl (by decide +kernel) ⟨Nat.le_of_ble_eq_true rfl, Nat.le_of_ble_eq_true rfl⟩ (by decide) rfl rfl (Nat.le_of_ble_eq_true rfl) dX9_goHour_350 (fun r350_11 => ?_)
          show cr_P Γ E 9 _ 0 0 (cr_us S0 9 r350_11) 353 ([(0, .ref (E.2.1 9 0)), (1, .int x1), (2, .int x2), (3, .int x3), (4, .int x4), (5, .int x5)]) ([]) _
          refine cr_iconst X (0 : Int32) (by decide) dX9_goHour_353 ?_
          refine cr_istore X ([(5, .int ((0 : Int32))), (0, .ref (E.2.1 9 0)), (1, .int x1), (2, .int x2), (3, .int x3), (4, .int x4)]) rfl (by decide) dX9_goHour_354 ?_
          refine cr_sub (lv' := [(0, .ref (E.2.1 9 0)), (1, .int x1), (3, .int x3), (4, .int x4), (5, .int ((0 : Int32)))]) [1, 2, 4, 5, 0] rfl ?_
          exact b_X9_goHour_356 X S0 1200 x1 x3 x4 ((0 : Int32)) r350_11
    · refine cr_aload_n X 0 rfl dX9_goHour_170 ?_
      refine cr_iload X 5 rfl dX9_goHour_171 ?_
      refine cr_iload_n X 2 rfl dX9_goHour_173 ?_
      refine cr_callV X (As := [.int x5, .int x2]) (rest := []) (c_X9_full Γ.2.1 E hEK S0 G x5 x2) ((cr_m0 E).at (cr_row S0 9 G 0) rfl) rfl 2 gX9_goHour_X9_full rfl rfl rfl (by decide +kernel) ⟨Nat.le_of_ble_eq_true rfl, Nat.le_of_ble_eq_true rfl⟩ (by decide) rfl rfl (Nat.le_of_ble_eq_true rfl) dX9_goHour_174 (fun r174_12 => ?_)
      show cr_P Γ E 9 _ 0 0 (cr_us S0 9 G) 177 ([(0, .ref (E.2.1 9 0)), (1, .int x1), (2, .int x2), (3, .int x3), (4, .int x4), (5, .int x5)]) ([.int r174_12]) _
      refine cr_istore X ([(6, .int r174_12), (0, .ref (E.2.1 9 0)), (1, .int x1), (2, .int x2), (3, .int x3), (4, .int x4), (5, .int x5)]) rfl (by decide) dX9_goHour_177 ?_
      refine cr_iload X 6 rfl dX9_goHour_179 ?_
      refine cr_iload_n X 2 rfl dX9_goHour_181 ?_
      refine cr_icmp_ne X 189 dX9_goHour_182 rfl ?_ ?_
      · refine cr_iconst X (0 : Int32) (by decide) dX9_goHour_189 ?_
        refine cr_sub (lv' := [(0, .ref (E.2.1 9 0)), (1, .int x1), (2, .int x2), (3, .int x3), (4, .int x4), (5, .int x5), (6, .int r174_12)]) [1, 2, 3, 4, 5, 6, 0] rfl ?_
        exact b_X9_goHour_190 X S0 (fun x1a x2a x3a x4a x5a Ga => s_X9_goHour_158 n x1a x2a x3a x4a x5a Ga) ih x1 x2 x3 x4 x5 r174_12 ((0 : Int32)) G
      · refine cr_iload_n X 4 rfl dX9_goHour_185 ?_
        refine cr_goto X 190 dX9_goHour_186 rfl ?_
        refine cr_sub (lv' := [(0, .ref (E.2.1 9 0)), (1, .int x1), (2, .int x2), (3, .int x3), (4, .int x4), (5, .int x5), (6, .int r174_12)]) [1, 2, 3, 4, 5, 6, 0] rfl ?_
        exact b_X9_goHour_190 X S0 (fun x1a x2a x3a x4a x5a Ga => s_X9_goHour_158 n x1a x2a x3a x4a x5a Ga) ih x1 x2 x3 x4 x5 r174_12 x3 G
set_option maxHeartbeats 4000000 in
set_option maxRecDepth 100000 in
theorem b_X9_goHour_122 {Γ : cr_C} {E : cr_E} (X : cr_X Γ E cX9_goHour 9 RX9 wsX9_goHour rm_X9_goHour (some .int)) (S0 : cr_S) (y0 : Int32) (G : cr_G) : cr_P Γ E 9 (cr_F Γ E (cr_vIG S0 9)) 0 0 (cr_us S0 9 G) 122 ([(0, .ref (E.2.1 9 0))]) ([.int y0]) (s_X9_goHour_122 y0 G) := by
  have hEK := X.2.2.2.2.2.2.1
  unfold s_X9_goHour_122
  refine cr_istore_n X ([(1, .int y0), (0, .ref (E.2.1 9 0))]) rfl (by decide) dX9_goHour_122 ?_
  refine cr_aload_n X 1 rfl dX9_goHour_123 ?_
  refine cr_aload_n X 1 rfl dX9_goHour_124 ?_
  refine cr_get X ((cr_m0 E).at (cr_row S0 9 G 0) rfl) rfl i_X9_goHour_X9 0 (by decide) k_X9_goHour_1 rfl dX9_goHour_125 ?_
  refine cr_sipush X (182 : Int32) (by decide) dX9_goHour_128 ?_
  refine cr_ialdk X 182 (by decide) (by decide) ((cr_m1 E).at (cr_row S0 9 G 1) rfl) dX9_goHour_131 ?_
  refine cr_callV X (As := [.int (((G 1) 182))]) (rest := []) (c_X9_windAt Γ.2.1 E hEK S0 G (((G 1) 182))) ((cr_m0 E).at (cr_row S0 9 G 0) rfl) rfl 1 gX9_goHour_X9_windAt rfl rfl rfl (by decide +kernel) ⟨Nat.le_of_ble_eq_true rfl, Nat.le_of_ble_eq_true rfl⟩ (by decide) rfl rfl (Nat.le_of_ble_eq_true rfl) dX9_goHour_132 (fun r132_4 => ?_)
  show cr_P Γ E 9 _ 0 0 (cr_us S0 9 G) 135 ([(1, .int y0), (0, .ref (E.2.1 9 0))]) ([.int r132_4]) _
  refine cr_istore_n X ([(2, .int r132_4), (1, .int y0), (0, .ref (E.2.1 9 0))]) rfl (by decide) dX9_goHour_135 ?_
  refine cr_iload_n X 1 rfl dX9_goHour_136 ?_
  refine cr_iconst X (-1 : Int32) (by decide) dX9_goHour_137 ?_
  refine cr_icmp_ne X 145 dX9_goHour_138 rfl ?_ ?_
  · refine cr_aload_n X 2 rfl dX9_goHour_145 ?_
    refine cr_iload_n X 1 rfl dX9_goHour_146 ?_
    refine cr_iload_n X 0 rfl dX9_goHour_147 ?_
    refine cr_callV X (As := [.int y0, .int r132_4]) (rest := []) (c_X9_serve Γ.2.1 E hEK S0 G y0 r132_4) ((cr_m0 E).at (cr_row S0 9 G 0) rfl) rfl 2 gX9_goHour_X9_serve rfl rfl rfl (by decide +kernel) ⟨Nat.le_of_ble_eq_true rfl, Nat.le_of_ble_eq_true rfl⟩ (by decide) rfl rfl (Nat.le_of_ble_eq_true rfl) dX9_goHour_148 (fun r148_5 => ?_)
    show cr_P Γ E 9 _ 0 0 (cr_us S0 9 r148_5.2) 151 ([(2, .int r132_4), (1, .int y0), (0, .ref (E.2.1 9 0))]) ([.int r148_5.1]) _
    refine cr_istore_n X ([(3, .int r148_5.1), (2, .int r132_4), (1, .int y0), (0, .ref (E.2.1 9 0))]) rfl (by decide) dX9_goHour_151 ?_
    refine cr_iconst X (0 : Int32) (by decide) dX9_goHour_152 ?_
    refine cr_istore X ([(4, .int ((0 : Int32))), (3, .int r148_5.1), (2, .int r132_4), (1, .int y0), (0, .ref (E.2.1 9 0))]) rfl (by decide) dX9_goHour_153 ?_
    refine cr_iconst X (0 : Int32) (by decide) dX9_goHour_155 ?_
    refine cr_istore X ([(5, .int ((0 : Int32))), (4, .int ((0 : Int32))), (3, .int r148_5.1), (2, .int r132_4), (1, .int y0), (0, .ref (E.2.1 9 0))]) rfl (by decide) dX9_goHour_156 ?_
    refine cr_sub (lv' := [(0, .ref (E.2.1 9 0)), (1, .int y0), (2, .int r132_4), (3, .int r148_5.1), (4, .int ((0 : Int32))), (5, .int ((0 : Int32)))]) [5, 4, 3, 2, 1, 0] rfl ?_
    exact b_X9_goHour_158 X S0 1200 y0 r132_4 r148_5.1 ((0 : Int32)) ((0 : Int32)) r148_5.2
  · refine cr_iconst X (0 : Int32) (by decide) dX9_goHour_141 ?_
    refine cr_goto X 151 dX9_goHour_142 rfl ?_
    refine cr_istore_n X ([(3, .int ((0 : Int32))), (2, .int r132_4), (1, .int y0), (0, .ref (E.2.1 9 0))]) rfl (by decide) dX9_goHour_151 ?_
    refine cr_iconst X (0 : Int32) (by decide) dX9_goHour_152 ?_
    refine cr_istore X ([(4, .int ((0 : Int32))), (3, .int ((0 : Int32))), (2, .int r132_4), (1, .int y0), (0, .ref (E.2.1 9 0))]) rfl (by decide) dX9_goHour_153 ?_
    refine cr_iconst X (0 : Int32) (by decide) dX9_goHour_155 ?_
    refine cr_istore X ([(5, .int ((0 : Int32))), (4, .int ((0 : Int32))), (3, .int ((0 : Int32))), (2, .int r132_4), (1, .int y0), (0, .ref (E.2.1 9 0))]) rfl (by decide) dX9_goHour_156 ?_
    refine cr_sub (lv' := [(0, .ref (E.2.1 9 0)), (1, .int y0), (2, .int r132_4), (3, .int ((0 : Int32))), (4, .int ((0 : Int32))), (5, .int ((0 : Int32)))]) [5, 4, 3, 2, 1, 0] rfl ?_
    exact b_X9_goHour_158 X S0 1200 y0 r132_4 ((0 : Int32)) ((0 : Int32)) ((0 : Int32)) G
set_option maxHeartbeats 4000000 in
set_option maxRecDepth 100000 in
theorem b_X9_goHour_99 {Γ : cr_C} {E : cr_E} (X : cr_X Γ E cX9_goHour 9 RX9 wsX9_goHour rm_X9_goHour (some .int)) (S0 : cr_S)  (G : cr_G) : cr_P Γ E 9 (cr_F Γ E (cr_vIG S0 9)) 0 0 (cr_us S0 9 G) 99 ([(0, .ref (E.2.1 9 0))]) ([]) (s_X9_goHour_99 G) := by
  have hEK := X.2.2.2.2.2.2.1
  unfold s_X9_goHour_99
  refine cr_aload_n X 0 rfl dX9_goHour_99 ?_
  refine cr_get X ((cr_m0 E).at (cr_row S0 9 G 0) rfl) rfl i_X9_goHour_X9 0 (by decide) k_X9_goHour_1 rfl dX9_goHour_100 ?_
  refine cr_sipush X (145 : Int32) (by decide) dX9_goHour_103 ?_
  refine cr_ialdk X 145 (by decide) (by decide) ((cr_m1 E).at (cr_row S0 9 G 1) rfl) dX9_goHour_106 ?_
  refine cr_if_ne X 114 dX9_goHour_107 rfl ?_ ?_
  · refine cr_aload_n X 0 rfl dX9_goHour_114 ?_
    refine cr_get X ((cr_m0 E).at (cr_row S0 9 G 0) rfl) rfl i_X9_goHour_X9 0 (by decide) k_X9_goHour_1 rfl dX9_goHour_115 ?_
    refine cr_sipush X (146 : Int32) (by decide) dX9_goHour_118 ?_
    refine cr_ialdk X 146 (by decide) (by decide) ((cr_m1 E).at (cr_row S0 9 G 1) rfl) dX9_goHour_121 ?_
    refine cr_sub (lv' := [(0, .ref (E.2.1 9 0))]) [0] rfl ?_
    exact b_X9_goHour_122 X S0 (((G 1) 146)) G
  · refine cr_iconst X (-1 : Int32) (by decide) dX9_goHour_110 ?_
    refine cr_goto X 122 dX9_goHour_111 rfl ?_
    refine cr_sub (lv' := [(0, .ref (E.2.1 9 0))]) [0] rfl ?_
    exact b_X9_goHour_122 X S0 ((-1 : Int32)) G
set_option maxHeartbeats 4000000 in
set_option maxRecDepth 100000 in
theorem b_X9_goHour_91 {Γ : cr_C} {E : cr_E} (X : cr_X Γ E cX9_goHour 9 RX9 wsX9_goHour rm_X9_goHour (some .int)) (S0 : cr_S) (k38 : cr_G → Option (Int32 × cr_G)) (hk38 : ∀  (G : cr_G), cr_P Γ E 9 (cr_F Γ E (cr_vIG S0 9)) 0 0 (cr_us S0 9 G) 38 ([(0, .ref (E.2.1 9 0))]) [] (k38 G))  (G : cr_G) : cr_P Γ E 9 (cr_F Γ E (cr_vIG S0 9)) 0 0 (cr_us S0 9 G) 91 ([(0, .ref (E.2.1 9 0))]) ([]) (s_X9_goHour_91 k38 G) := by
  have hEK := X.2.2.2.2.2.2.1
  unfold s_X9_goHour_91
  refine cr_aload_n X 0 rfl dX9_goHour_91 ?_
  refine cr_iconst X (0 : Int32) (by decide) dX9_goHour_92 ?_
  refine cr_callV X (As := [.int ((0 : Int32))]) (rest := []) (c_X9_takeOff Γ.2.1 E hEK S0 G ((0 : Int32))) ((cr_m0 E).at (cr_row S0 9 G 0) rfl) rfl 1 gX9_goHour_X9_takeOff rfl rfl rfl (by decide +kernel) ⟨Nat.le_of_ble_eq_true rfl, Nat.le_of_ble_eq_true rfl⟩ (by decide) rfl rfl (Nat.le_of_ble_eq_true rfl) dX9_goHour_93 (fun r93_27 => ?_)
  show cr_P Γ E 9 _ 0 0 (cr_us S0 9 r93_27) 96 ([(0, .ref (E.2.1 9 0))]) ([]) _
  refine cr_goto X 38 dX9_goHour_96 rfl ?_
  refine cr_sub (lv' := [(0, .ref (E.2.1 9 0))]) [0] rfl ?_
  exact hk38 r93_27
set_option maxHeartbeats 4000000 in
set_option maxRecDepth 100000 in
theorem b_X9_goHour_38 {Γ : cr_C} {E : cr_E} (X : cr_X Γ E cX9_goHour 9 RX9 wsX9_goHour rm_X9_goHour (some .int)) (S0 : cr_S) : ∀ (n : Nat)  (G : cr_G), cr_P Γ E 9 (cr_F Γ E (cr_vIG S0 9)) 0 0 (cr_us S0 9 G) 38 ([(0, .ref (E.2.1 9 0))]) ([]) (s_X9_goHour_38 n G) := by
  have hEK := X.2.2.2.2.2.2.1
  intro n
  induction n with
  | zero => intro  G; exact cr_none
  | succ n ih =>
    intro  G
    rw [s_X9_goHour_38]
    refine cr_aload_n X 0 rfl dX9_goHour_38 ?_
    refine cr_get X ((cr_m0 E).at (cr_row S0 9 G 0) rfl) rfl i_X9_goHour_X9 0 (by decide) k_X9_goHour_1 rfl dX9_goHour_39 ?_
    refine cr_sipush X (145 : Int32) (by decide) dX9_goHour_42 ?_
    refine cr_ialdk X 145 (by decide) (by decide) ((cr_m1 E).at (cr_row S0 9 G 1) rfl) dX9_goHour_45 ?_
    refine cr_if_le X 99 dX9_goHour_46 rfl ?_ ?_
    · refine cr_sub (lv' := [(0, .ref (E.2.1 9 0))]) [0] rfl ?_
      exact b_X9_goHour_99 X S0 G
    · refine cr_aload_n X 0 rfl dX9_goHour_49 ?_
      refine cr_get X ((cr_m0 E).at (cr_row S0 9 G 0) rfl) rfl i_X9_goHour_X9 0 (by decide) k_X9_goHour_1 rfl dX9_goHour_50 ?_
      refine cr_bipush X (30 : Int32) (by decide) dX9_goHour_53 ?_
      refine cr_aload_n X 0 rfl dX9_goHour_55 ?_
      refine cr_get X ((cr_m0 E).at (cr_row S0 9 G 0) rfl) rfl i_X9_goHour_X9 0 (by decide) k_X9_goHour_1 rfl dX9_goHour_56 ?_
      refine cr_sipush X (146 : Int32) (by decide) dX9_goHour_59 ?_
      refine cr_ialdk X 146 (by decide) (by decide) ((cr_m1 E).at (cr_row S0 9 G 1) rfl) dX9_goHour_62 ?_
      refine cr_iadd X dX9_goHour_63 ?_
      refine cr_iald X ((cr_m1 E).at (cr_row S0 9 G 1) rfl) dX9_goHour_64 ?_
      refine cr_if_ne X 99 dX9_goHour_65 rfl ?_ ?_
      · refine cr_sub (lv' := [(0, .ref (E.2.1 9 0))]) [0] rfl ?_
        exact b_X9_goHour_99 X S0 G
      · refine cr_aload_n X 0 rfl dX9_goHour_68 ?_
        refine cr_get X ((cr_m0 E).at (cr_row S0 9 G 0) rfl) rfl i_X9_goHour_X9 0 (by decide) k_X9_goHour_1 rfl dX9_goHour_69 ?_
        refine cr_sipush X (146 : Int32) (by decide) dX9_goHour_72 ?_
        refine cr_ialdk X 146 (by decide) (by decide) ((cr_m1 E).at (cr_row S0 9 G 1) rfl) dX9_goHour_75 ?_
        refine cr_aload_n X 0 rfl dX9_goHour_76 ?_
        refine cr_get X ((cr_m0 E).at (cr_row S0 9 G 0) rfl) rfl i_X9_goHour_X9 0 (by decide) k_X9_goHour_1 rfl dX9_goHour_77 ?_
        refine cr_sipush X (144 : Int32) (by decide) dX9_goHour_80 ?_
        refine cr_ialdk X 144 (by decide) (by decide) ((cr_m1 E).at (cr_row S0 9 G 1) rfl) dX9_goHour_83 ?_
        refine cr_icmp_ne X 91 dX9_goHour_84 rfl ?_ ?_
        · refine cr_sub (lv' := [(0, .ref (E.2.1 9 0))]) [0] rfl ?_
          exact b_X9_goHour_91 X S0 (fun Ga => s_X9_goHour_38 n Ga) ih G
        · refine cr_aload_n X 0 rfl dX9_goHour_87 ?_
          refine cr_callV X (As := []) (rest := []) (c_X9_forget Γ.2.1 E hEK S0 G) ((cr_m0 E).at (cr_row S0 9 G 0) rfl) rfl 0 gX9_goHour_X9_forget rfl rfl rfl (by decide +kernel) ⟨Nat.le_of_ble_eq_true rfl, Nat.le_of_ble_eq_true rfl⟩ (by decide) rfl rfl (Nat.le_of_ble_eq_true rfl) dX9_goHour_88 (fun r88_3 => ?_)
          show cr_P Γ E 9 _ 0 0 (cr_us S0 9 r88_3) 91 ([(0, .ref (E.2.1 9 0))]) ([]) _
          refine cr_sub (lv' := [(0, .ref (E.2.1 9 0))]) [0] rfl ?_
          exact b_X9_goHour_91 X S0 (fun Ga => s_X9_goHour_38 n Ga) ih r88_3
set_option maxHeartbeats 4000000 in
set_option maxRecDepth 100000 in
theorem c_X9_goHour (l : Launch) (E : cr_E) (hEK : cr_EK E) (S0 : cr_S) (G : cr_G) : cr_M l E yX9_goHour wsX9_goHour rm_X9_goHour [.ref (E.2.1 9 0)] (cr_us S0 9 G) (cr_vIG S0 9) (s_X9_goHour G) := by
  refine cr_enter (cc := cX9_goHour) (nL := 9) (rt := (some .int)) hEK (by decide) rfl (Nat.le_of_ble_eq_true rfl) (fun Γ hΓ X => ?_)
  subst hΓ
  have X : cr_X Γ E cX9_goHour 9 RX9 wsX9_goHour rm_X9_goHour (some .int) := X
  unfold s_X9_goHour
  show cr_P Γ E 9 _ 0 0 (cr_us S0 9 G) 0 ([(0, .ref (E.2.1 9 0))]) [] _
  refine cr_aload_n X 0 rfl dX9_goHour_0 ?_
  refine cr_callV X (As := []) (rest := []) (c_X9_unload Γ.2.1 E hEK S0 G) ((cr_m0 E).at (cr_row S0 9 G 0) rfl) rfl 0 gX9_goHour_X9_unload rfl rfl rfl (by decide +kernel) ⟨Nat.le_of_ble_eq_true rfl, Nat.le_of_ble_eq_true rfl⟩ (by decide) rfl rfl (Nat.le_of_ble_eq_true rfl) dX9_goHour_1 (fun r1_1 => ?_)
  show cr_P Γ E 9 _ 0 0 (cr_us S0 9 r1_1) 4 ([(0, .ref (E.2.1 9 0))]) ([]) _
  refine cr_aload_n X 0 rfl dX9_goHour_4 ?_
  refine cr_get X ((cr_m0 E).at (cr_row S0 9 r1_1 0) rfl) rfl i_X9_goHour_X9 0 (by decide) k_X9_goHour_1 rfl dX9_goHour_5 ?_
  refine cr_sipush X (145 : Int32) (by decide) dX9_goHour_8 ?_
  refine cr_ialdk X 145 (by decide) (by decide) ((cr_m1 E).at (cr_row S0 9 r1_1 1) rfl) dX9_goHour_11 ?_
  refine cr_if_le X 38 dX9_goHour_12 rfl ?_ ?_
  · refine cr_sub (lv' := [(0, .ref (E.2.1 9 0))]) [0] rfl ?_
    exact b_X9_goHour_38 X S0 1200 r1_1
  · refine cr_aload_n X 0 rfl dX9_goHour_15 ?_
    refine cr_get X ((cr_m0 E).at (cr_row S0 9 r1_1 0) rfl) rfl i_X9_goHour_X9 0 (by decide) k_X9_goHour_1 rfl dX9_goHour_16 ?_
    refine cr_sipush X (146 : Int32) (by decide) dX9_goHour_19 ?_
    refine cr_ialdk X 146 (by decide) (by decide) ((cr_m1 E).at (cr_row S0 9 r1_1 1) rfl) dX9_goHour_22 ?_
    refine cr_aload_n X 0 rfl dX9_goHour_23 ?_
    refine cr_get X ((cr_m0 E).at (cr_row S0 9 r1_1 0) rfl) rfl i_X9_goHour_X9 0 (by decide) k_X9_goHour_1 rfl dX9_goHour_24 ?_
    refine cr_sipush X (144 : Int32) (by decide) dX9_goHour_27 ?_
    refine cr_ialdk X 144 (by decide) (by decide) ((cr_m1 E).at (cr_row S0 9 r1_1 1) rfl) dX9_goHour_30 ?_
    refine cr_icmp_eq X 38 dX9_goHour_31 rfl ?_ ?_
    · refine cr_sub (lv' := [(0, .ref (E.2.1 9 0))]) [0] rfl ?_
      exact b_X9_goHour_38 X S0 1200 r1_1
    · refine cr_aload_n X 0 rfl dX9_goHour_34 ?_
      refine cr_callV X (As := []) (rest := []) (c_X9_forget Γ.2.1 E hEK S0 r1_1) ((cr_m0 E).at (cr_row S0 9 r1_1 0) rfl) rfl 0 gX9_goHour_X9_forget rfl rfl rfl (by decide +kernel) ⟨Nat.le_of_ble_eq_true rfl, Nat.le_of_ble_eq_true rfl⟩ (by decide) rfl rfl (Nat.le_of_ble_eq_true rfl) dX9_goHour_35 (fun r35_2 => ?_)
      show cr_P Γ E 9 _ 0 0 (cr_us S0 9 r35_2) 38 ([(0, .ref (E.2.1 9 0))]) ([]) _
      refine cr_sub (lv' := [(0, .ref (E.2.1 9 0))]) [0] rfl ?_
      exact b_X9_goHour_38 X S0 1200 r35_2
theorem c_X9_goHour_S (l : Launch) (E : cr_E) (hEK : cr_EK E) (S : cr_S) : cr_M l E yX9_goHour wsX9_goHour rm_X9_goHour [.ref (E.2.1 9 0)] S (cr_vIG S 9) (s_X9_goHour   (S.1 9)) := by
  have h := c_X9_goHour l E hEK S (S.1 9)
  rw [cr_us_self] at h
  exact h
abbrev rm_X9_goHours : Room := { frames := 3, cells := 0, slots := 0, locals := 78 }
set_option maxHeartbeats 4000000 in
set_option maxRecDepth 100000 in
theorem b_X9_goHours_4 {Γ : cr_C} {E : cr_E} (X : cr_X Γ E cX9_goHours 4 RX9 wsX9_goHours rm_X9_goHours (some .int)) (S0 : cr_S) : ∀ (n : Nat) (x1 : Int32) (x2 : Int32) (x3 : Int32) (G : cr_G), cr_P Γ E 4 (cr_F Γ E (cr_vIG S0 9)) 0 0 (cr_us S0 9 G) 4 ([(0, .ref (E.2.1 9 0)), (1, .int x1), (2, .int x2), (3, .int x3)]) ([]) (s_X9_goHours_4 n x1 x2 x3 G) := by
  have hEK := X.2.2.2.2.2.2.1
  intro n
  induction n with
  | zero => intro x1 x2 x3 G; exact cr_none
  | succ n ih =>
    intro x1 x2 x3 G
    rw [s_X9_goHours_4]
    refine cr_iload_n X 3 rfl dX9_goHours_4 ?_
    refine cr_iload_n X 1 rfl dX9_goHours_5 ?_
    refine cr_icmp_ge X 22 dX9_goHours_6 rfl ?_ ?_
    · refine cr_iload_n X 2 rfl dX9_goHours_22 ?_
      exact cr_iret X rfl rfl dX9_goHours_23
    · refine cr_iload_n X 2 rfl dX9_goHours_9 ?_
      refine cr_aload_n X 0 rfl dX9_goHours_10 ?_
      refine cr_callV X (As := []) (rest := [.int x2]) (c_X9_goHour Γ.2.1 E hEK S0 G) ((cr_m0 E).at (cr_row S0 9 G 0) rfl) rfl 0 gX9_goHours_X9_goHour rfl rfl rfl (by decide +kernel) ⟨Nat.le_of_ble_eq_true rfl, Nat.le_of_ble_eq_true rfl⟩ (by decide) rfl rfl (Nat.le_of_ble_eq_true rfl) dX9_goHours_11 (fun r11_1 => ?_)
      show cr_P Γ E 4 _ 0 0 (cr_us S0 9 r11_1.2) 14 ([(0, .ref (E.2.1 9 0)), (1, .int x1), (2, .int x2), (3, .int x3)]) ([.int r11_1.1, .int x2]) _
      refine cr_iadd X dX9_goHours_14 ?_
      refine cr_istore_nb X (fun v15_2 => [(2, .int v15_2), (0, .ref (E.2.1 9 0)), (1, .int x1), (3, .int x3)]) (fun _ => rfl) (by decide) dX9_goHours_15 (fun v15_2 => ?_)
      refine cr_iinc X (x3 + 1) (fun v16_3 => [(3, .int v16_3), (2, .int v15_2), (0, .ref (E.2.1 9 0)), (1, .int x1)]) 3 rfl rfl (fun _ => rfl) (by decide) dX9_goHours_16 (fun v16_3 => ?_)
      refine cr_goto X 4 dX9_goHours_19 rfl ?_
      refine cr_sub (lv' := [(0, .ref (E.2.1 9 0)), (1, .int x1), (2, .int v15_2), (3, .int v16_3)]) [2, 3, 1, 0] rfl ?_
      exact ih x1 v15_2 v16_3 r11_1.2
set_option maxHeartbeats 4000000 in
set_option maxRecDepth 100000 in
theorem c_X9_goHours (l : Launch) (E : cr_E) (hEK : cr_EK E) (S0 : cr_S) (G : cr_G) (p1 : Int32) : cr_M l E yX9_goHours wsX9_goHours rm_X9_goHours [.ref (E.2.1 9 0), .int p1] (cr_us S0 9 G) (cr_vIG S0 9) (s_X9_goHours p1 G) := by
  refine cr_enter (cc := cX9_goHours) (nL := 4) (rt := (some .int)) hEK (by decide) rfl (Nat.le_of_ble_eq_true rfl) (fun Γ hΓ X => ?_)
  subst hΓ
  have X : cr_X Γ E cX9_goHours 4 RX9 wsX9_goHours rm_X9_goHours (some .int) := X
  unfold s_X9_goHours
  show cr_P Γ E 4 _ 0 0 (cr_us S0 9 G) 0 ([(0, .ref (E.2.1 9 0)), (1, .int p1)]) [] _
  refine cr_iconst X (0 : Int32) (by decide) dX9_goHours_0 ?_
  refine cr_istore_n X ([(2, .int ((0 : Int32))), (0, .ref (E.2.1 9 0)), (1, .int p1)]) rfl (by decide) dX9_goHours_1 ?_
  refine cr_iconst X (0 : Int32) (by decide) dX9_goHours_2 ?_
  refine cr_istore_n X ([(3, .int ((0 : Int32))), (2, .int ((0 : Int32))), (0, .ref (E.2.1 9 0)), (1, .int p1)]) rfl (by decide) dX9_goHours_3 ?_
  refine cr_sub (lv' := [(0, .ref (E.2.1 9 0)), (1, .int p1), (2, .int ((0 : Int32))), (3, .int ((0 : Int32)))]) [2, 3, 1, 0] rfl ?_
  exact b_X9_goHours_4 X S0 1200 p1 ((0 : Int32)) ((0 : Int32)) G
theorem c_X9_goHours_S (l : Launch) (E : cr_E) (hEK : cr_EK E) (S : cr_S) (p1 : Int32) : cr_M l E yX9_goHours wsX9_goHours rm_X9_goHours [.ref (E.2.1 9 0), .int p1] S (cr_vIG S 9) (s_X9_goHours  p1 (S.1 9)) := by
  have h := c_X9_goHours l E hEK S (S.1 9) p1
  rw [cr_us_self] at h
  exact h
theorem k_X9_sum_1 : (Cond.fieldLink RX9 7 "CraneCampaignModel" "z" "[I") ∈ wsX9_sum := List.mem_of_getElem? (i := 1) (by rfl)
theorem i_X9_sum_X9 : ∀ w ∈ wsX90, w ∈ wsX9_sum := by decide +kernel
abbrev rm_X9_sum : Room := { frames := 0, cells := 0, slots := 0, locals := 0 }
set_option maxHeartbeats 4000000 in
set_option maxRecDepth 100000 in
theorem b_X9_sum_4 {Γ : cr_C} {E : cr_E} (X : cr_X Γ E cX9_sum 4 RX9 wsX9_sum rm_X9_sum (some .int)) (S0 : cr_S) (G : cr_G) : ∀ (n : Nat) (x1 : Int32) (x2 : Int32) (x3 : Int32), cr_P Γ E 4 (cr_F Γ E (cr_vI (cr_us S0 9 G))) 0 0 (cr_us S0 9 G) 4 ([(0, .ref (E.2.1 9 0)), (1, .int x1), (2, .int x2), (3, .int x3)]) ([]) (s_X9_sum_4 G n x1 x2 x3) := by
  have hEK := X.2.2.2.2.2.2.1
  intro n
  induction n with
  | zero => intro x1 x2 x3; exact cr_none
  | succ n ih =>
    intro x1 x2 x3
    rw [s_X9_sum_4]
    refine cr_iload_n X 3 rfl dX9_sum_4 ?_
    refine cr_aload_n X 0 rfl dX9_sum_5 ?_
    refine cr_get X ((cr_m0 E).at (cr_row S0 9 G 0) rfl) rfl i_X9_sum_X9 0 (by decide) k_X9_sum_1 rfl dX9_sum_6 ?_
    refine cr_bipush X (70 : Int32) (by decide) dX9_sum_9 ?_
    refine cr_ialdk X 70 (by decide) (by decide) ((cr_m1 E).at (cr_row S0 9 G 1) rfl) dX9_sum_11 ?_
    refine cr_icmp_ge X 32 dX9_sum_12 rfl ?_ ?_
    · refine cr_iload_n X 2 rfl dX9_sum_32 ?_
      exact cr_iret X rfl rfl dX9_sum_33
    · refine cr_iload_n X 2 rfl dX9_sum_15 ?_
      refine cr_aload_n X 0 rfl dX9_sum_16 ?_
      refine cr_get X ((cr_m0 E).at (cr_row S0 9 G 0) rfl) rfl i_X9_sum_X9 0 (by decide) k_X9_sum_1 rfl dX9_sum_17 ?_
      refine cr_iload_n X 1 rfl dX9_sum_20 ?_
      refine cr_iload_n X 3 rfl dX9_sum_21 ?_
      refine cr_iadd X dX9_sum_22 ?_
      refine cr_iald X ((cr_m1 E).at (cr_row S0 9 G 1) rfl) dX9_sum_23 ?_
      refine cr_iadd X dX9_sum_24 ?_
      refine cr_istore_nb X (fun v25_1 => [(2, .int v25_1), (0, .ref (E.2.1 9 0)), (1, .int x1), (3, .int x3)]) (fun _ => rfl) (by decide) dX9_sum_25 (fun v25_1 => ?_)
      refine cr_iinc X (x3 + 1) (fun v26_2 => [(3, .int v26_2), (2, .int v25_1), (0, .ref (E.2.1 9 0)), (1, .int x1)]) 3 rfl rfl (fun _ => rfl) (by decide) dX9_sum_26 (fun v26_2 => ?_)
      refine cr_goto X 4 dX9_sum_29 rfl ?_
      refine cr_sub (lv' := [(0, .ref (E.2.1 9 0)), (1, .int x1), (2, .int v25_1), (3, .int v26_2)]) [2, 3, 1, 0] rfl ?_
      exact ih x1 v25_1 v26_2
set_option maxHeartbeats 4000000 in
set_option maxRecDepth 100000 in
theorem c_X9_sum (l : Launch) (E : cr_E) (hEK : cr_EK E) (S0 : cr_S) (G : cr_G) (p1 : Int32) : cr_M l E yX9_sum wsX9_sum rm_X9_sum [.ref (E.2.1 9 0), .int p1] (cr_us S0 9 G) (cr_vI (cr_us S0 9 G)) (s_X9_sum G p1) := by
  refine cr_enter (cc := cX9_sum) (nL := 4) (rt := (some .int)) hEK (by decide) rfl (Nat.le_of_ble_eq_true rfl) (fun Γ hΓ X => ?_)
  subst hΓ
  have X : cr_X Γ E cX9_sum 4 RX9 wsX9_sum rm_X9_sum (some .int) := X
  unfold s_X9_sum
  show cr_P Γ E 4 _ 0 0 (cr_us S0 9 G) 0 ([(0, .ref (E.2.1 9 0)), (1, .int p1)]) [] _
  refine cr_iconst X (0 : Int32) (by decide) dX9_sum_0 ?_
  refine cr_istore_n X ([(2, .int ((0 : Int32))), (0, .ref (E.2.1 9 0)), (1, .int p1)]) rfl (by decide) dX9_sum_1 ?_
  refine cr_iconst X (0 : Int32) (by decide) dX9_sum_2 ?_
  refine cr_istore_n X ([(3, .int ((0 : Int32))), (2, .int ((0 : Int32))), (0, .ref (E.2.1 9 0)), (1, .int p1)]) rfl (by decide) dX9_sum_3 ?_
  refine cr_sub (lv' := [(0, .ref (E.2.1 9 0)), (1, .int p1), (2, .int ((0 : Int32))), (3, .int ((0 : Int32)))]) [2, 3, 1, 0] rfl ?_
  exact b_X9_sum_4 X S0 G 1200 p1 ((0 : Int32)) ((0 : Int32))
theorem c_X9_sum_S (l : Launch) (E : cr_E) (hEK : cr_EK E) (S : cr_S) (p1 : Int32) : cr_M l E yX9_sum wsX9_sum rm_X9_sum [.ref (E.2.1 9 0), .int p1] S (cr_vI S) (s_X9_sum (S.1 9) p1) := by
  have h := c_X9_sum l E hEK S (S.1 9) p1
  rw [cr_us_self] at h
  exact h
theorem k_X9_faulty_1 : (Cond.fieldLink RX9 7 "CraneCampaignModel" "z" "[I") ∈ wsX9_faulty := List.mem_of_getElem? (i := 1) (by rfl)
theorem i_X9_faulty_X9 : ∀ w ∈ wsX90, w ∈ wsX9_faulty := by decide +kernel
abbrev rm_X9_faulty : Room := { frames := 0, cells := 0, slots := 0, locals := 0 }
set_option maxHeartbeats 4000000 in
set_option maxRecDepth 100000 in
theorem b_X9_faulty_4 {Γ : cr_C} {E : cr_E} (X : cr_X Γ E cX9_faulty 3 RX9 wsX9_faulty rm_X9_faulty (some .int)) (S0 : cr_S) (G : cr_G) : ∀ (n : Nat) (x1 : Int32) (x2 : Int32), cr_P Γ E 3 (cr_F Γ E (cr_vI (cr_us S0 9 G))) 0 0 (cr_us S0 9 G) 4 ([(0, .ref (E.2.1 9 0)), (1, .int x1), (2, .int x2)]) ([]) (s_X9_faulty_4 G n x1 x2) := by
  have hEK := X.2.2.2.2.2.2.1
  intro n
  induction n with
  | zero => intro x1 x2; exact cr_none
  | succ n ih =>
    intro x1 x2
    rw [s_X9_faulty_4]
    refine cr_iload_n X 2 rfl dX9_faulty_4 ?_
    refine cr_aload_n X 0 rfl dX9_faulty_5 ?_
    refine cr_get X ((cr_m0 E).at (cr_row S0 9 G 0) rfl) rfl i_X9_faulty_X9 0 (by decide) k_X9_faulty_1 rfl dX9_faulty_6 ?_
    refine cr_bipush X (70 : Int32) (by decide) dX9_faulty_9 ?_
    refine cr_ialdk X 70 (by decide) (by decide) ((cr_m1 E).at (cr_row S0 9 G 1) rfl) dX9_faulty_11 ?_
    refine cr_icmp_ge X 41 dX9_faulty_12 rfl ?_ ?_
    · refine cr_iload_n X 1 rfl dX9_faulty_41 ?_
      exact cr_iret X rfl rfl dX9_faulty_42
    · refine cr_iload_n X 1 rfl dX9_faulty_15 ?_
      refine cr_aload_n X 0 rfl dX9_faulty_16 ?_
      refine cr_get X ((cr_m0 E).at (cr_row S0 9 G 0) rfl) rfl i_X9_faulty_X9 0 (by decide) k_X9_faulty_1 rfl dX9_faulty_17 ?_
      refine cr_bipush X (30 : Int32) (by decide) dX9_faulty_20 ?_
      refine cr_iload_n X 2 rfl dX9_faulty_22 ?_
      refine cr_iadd X dX9_faulty_23 ?_
      refine cr_iald X ((cr_m1 E).at (cr_row S0 9 G 1) rfl) dX9_faulty_24 ?_
      refine cr_if_le X 32 dX9_faulty_25 rfl ?_ ?_
      · refine cr_iconst X (0 : Int32) (by decide) dX9_faulty_32 ?_
        refine cr_iadd X dX9_faulty_33 ?_
        refine cr_istore_nb X (fun v34_1 => [(1, .int v34_1), (0, .ref (E.2.1 9 0)), (2, .int x2)]) (fun _ => rfl) (by decide) dX9_faulty_34 (fun v34_1 => ?_)
        refine cr_iinc X (x2 + 1) (fun v35_2 => [(2, .int v35_2), (1, .int v34_1), (0, .ref (E.2.1 9 0))]) 2 rfl rfl (fun _ => rfl) (by decide) dX9_faulty_35 (fun v35_2 => ?_)
        refine cr_goto X 4 dX9_faulty_38 rfl ?_
        refine cr_sub (lv' := [(0, .ref (E.2.1 9 0)), (1, .int v34_1), (2, .int v35_2)]) [2, 1, 0] rfl ?_
        exact ih v34_1 v35_2
      · refine cr_iconst X (1 : Int32) (by decide) dX9_faulty_28 ?_
        refine cr_goto X 33 dX9_faulty_29 rfl ?_
        refine cr_iadd X dX9_faulty_33 ?_
        refine cr_istore_nb X (fun v34_3 => [(1, .int v34_3), (0, .ref (E.2.1 9 0)), (2, .int x2)]) (fun _ => rfl) (by decide) dX9_faulty_34 (fun v34_3 => ?_)
        refine cr_iinc X (x2 + 1) (fun v35_4 => [(2, .int v35_4), (1, .int v34_3), (0, .ref (E.2.1 9 0))]) 2 rfl rfl (fun _ => rfl) (by decide) dX9_faulty_35 (fun v35_4 => ?_)
        refine cr_goto X 4 dX9_faulty_38 rfl ?_
        refine cr_sub (lv' := [(0, .ref (E.2.1 9 0)), (1, .int v34_3), (2, .int v35_4)]) [2, 1, 0] rfl ?_
        exact ih v34_3 v35_4
set_option maxHeartbeats 4000000 in
set_option maxRecDepth 100000 in
theorem c_X9_faulty (l : Launch) (E : cr_E) (hEK : cr_EK E) (S0 : cr_S) (G : cr_G) : cr_M l E yX9_faulty wsX9_faulty rm_X9_faulty [.ref (E.2.1 9 0)] (cr_us S0 9 G) (cr_vI (cr_us S0 9 G)) (s_X9_faulty G) := by
  refine cr_enter (cc := cX9_faulty) (nL := 3) (rt := (some .int)) hEK (by decide) rfl (Nat.le_of_ble_eq_true rfl) (fun Γ hΓ X => ?_)
  subst hΓ
  have X : cr_X Γ E cX9_faulty 3 RX9 wsX9_faulty rm_X9_faulty (some .int) := X
  unfold s_X9_faulty
  show cr_P Γ E 3 _ 0 0 (cr_us S0 9 G) 0 ([(0, .ref (E.2.1 9 0))]) [] _
  refine cr_iconst X (0 : Int32) (by decide) dX9_faulty_0 ?_
  refine cr_istore_n X ([(1, .int ((0 : Int32))), (0, .ref (E.2.1 9 0))]) rfl (by decide) dX9_faulty_1 ?_
  refine cr_iconst X (0 : Int32) (by decide) dX9_faulty_2 ?_
  refine cr_istore_n X ([(2, .int ((0 : Int32))), (1, .int ((0 : Int32))), (0, .ref (E.2.1 9 0))]) rfl (by decide) dX9_faulty_3 ?_
  refine cr_sub (lv' := [(0, .ref (E.2.1 9 0)), (1, .int ((0 : Int32))), (2, .int ((0 : Int32)))]) [2, 1, 0] rfl ?_
  exact b_X9_faulty_4 X S0 G 1200 ((0 : Int32)) ((0 : Int32))
theorem c_X9_faulty_S (l : Launch) (E : cr_E) (hEK : cr_EK E) (S : cr_S) : cr_M l E yX9_faulty wsX9_faulty rm_X9_faulty [.ref (E.2.1 9 0)] S (cr_vI S) (s_X9_faulty (S.1 9)) := by
  have h := c_X9_faulty l E hEK S (S.1 9)
  rw [cr_us_self] at h
  exact h
theorem k_X9_told_1 : (Cond.fieldLink RX9 7 "CraneCampaignModel" "z" "[I") ∈ wsX9_told := List.mem_of_getElem? (i := 1) (by rfl)
theorem i_X9_told_X9 : ∀ w ∈ wsX90, w ∈ wsX9_told := by decide +kernel
abbrev rm_X9_told : Room := { frames := 1, cells := 0, slots := 0, locals := 23 }
set_option maxHeartbeats 4000000 in
set_option maxRecDepth 100000 in
theorem c_X9_told (l : Launch) (E : cr_E) (hEK : cr_EK E) (S0 : cr_S) (G : cr_G) (p1 : Int32) : cr_M l E yX9_told wsX9_told rm_X9_told [.ref (E.2.1 9 0), .int p1] (cr_us S0 9 G) (cr_vI (cr_us S0 9 G)) (s_X9_told G p1) := by
  refine cr_enter (cc := cX9_told) (nL := 2) (rt := (some .int)) hEK (by decide) rfl (Nat.le_of_ble_eq_true rfl) (fun Γ hΓ X => ?_)
  subst hΓ
  have X : cr_X Γ E cX9_told 2 RX9 wsX9_told rm_X9_told (some .int) := X
  unfold s_X9_told
  show cr_P Γ E 2 _ 0 0 (cr_us S0 9 G) 0 ([(0, .ref (E.2.1 9 0)), (1, .int p1)]) [] _
  refine cr_iload_n X 1 rfl dX9_told_0 ?_
  refine cr_iconst X (5 : Int32) (by decide) dX9_told_1 ?_
  refine cr_icmp_ge X 18 dX9_told_2 rfl ?_ ?_
  · refine cr_iload_n X 1 rfl dX9_told_18 ?_
    refine cr_iconst X (5 : Int32) (by decide) dX9_told_19 ?_
    refine cr_icmp_ne X 32 dX9_told_20 rfl ?_ ?_
    · refine cr_iload_n X 1 rfl dX9_told_32 ?_
      refine cr_bipush X (6 : Int32) (by decide) dX9_told_33 ?_
      refine cr_icmp_ne X 47 dX9_told_35 rfl ?_ ?_
      · refine cr_iload_n X 1 rfl dX9_told_47 ?_
        refine cr_bipush X (7 : Int32) (by decide) dX9_told_48 ?_
        refine cr_icmp_ne X 60 dX9_told_50 rfl ?_ ?_
        · refine cr_aload_n X 0 rfl dX9_told_60 ?_
          refine cr_get X ((cr_m0 E).at (cr_row S0 9 G 0) rfl) rfl i_X9_told_X9 0 (by decide) k_X9_told_1 rfl dX9_told_61 ?_
          refine cr_sipush X (145 : Int32) (by decide) dX9_told_64 ?_
          refine cr_ialdk X 145 (by decide) (by decide) ((cr_m1 E).at (cr_row S0 9 G 1) rfl) dX9_told_67 ?_
          exact cr_iret X rfl rfl dX9_told_68
        · refine cr_aload_n X 0 rfl dX9_told_53 ?_
          refine cr_callV X (As := []) (rest := []) (c_X9_faulty Γ.2.1 E hEK S0 G) ((cr_m0 E).at (cr_row S0 9 G 0) rfl) rfl 0 gX9_told_X9_faulty rfl rfl rfl (by decide +kernel) ⟨Nat.le_of_ble_eq_true rfl, Nat.le_of_ble_eq_true rfl⟩ (by decide) rfl rfl (Nat.le_of_ble_eq_true rfl) dX9_told_54 (fun r54_1 => ?_)
          show cr_P Γ E 2 _ 0 0 (cr_us S0 9 G) 57 ([(0, .ref (E.2.1 9 0)), (1, .int p1)]) ([.int r54_1]) _
          refine cr_goto X 68 dX9_told_57 rfl ?_
          exact cr_iret X rfl rfl dX9_told_68
      · refine cr_aload_n X 0 rfl dX9_told_38 ?_
        refine cr_bipush X (60 : Int32) (by decide) dX9_told_39 ?_
        refine cr_callV X (As := [.int ((60 : Int32))]) (rest := []) (c_X9_sum Γ.2.1 E hEK S0 G ((60 : Int32))) ((cr_m0 E).at (cr_row S0 9 G 0) rfl) rfl 1 gX9_told_X9_sum rfl rfl rfl (by decide +kernel) ⟨Nat.le_of_ble_eq_true rfl, Nat.le_of_ble_eq_true rfl⟩ (by decide) rfl rfl (Nat.le_of_ble_eq_true rfl) dX9_told_41 (fun r41_2 => ?_)
        show cr_P Γ E 2 _ 0 0 (cr_us S0 9 G) 44 ([(0, .ref (E.2.1 9 0)), (1, .int p1)]) ([.int r41_2]) _
        refine cr_goto X 68 dX9_told_44 rfl ?_
        exact cr_iret X rfl rfl dX9_told_68
    · refine cr_aload_n X 0 rfl dX9_told_23 ?_
      refine cr_bipush X (50 : Int32) (by decide) dX9_told_24 ?_
      refine cr_callV X (As := [.int ((50 : Int32))]) (rest := []) (c_X9_sum Γ.2.1 E hEK S0 G ((50 : Int32))) ((cr_m0 E).at (cr_row S0 9 G 0) rfl) rfl 1 gX9_told_X9_sum rfl rfl rfl (by decide +kernel) ⟨Nat.le_of_ble_eq_true rfl, Nat.le_of_ble_eq_true rfl⟩ (by decide) rfl rfl (Nat.le_of_ble_eq_true rfl) dX9_told_26 (fun r26_3 => ?_)
      show cr_P Γ E 2 _ 0 0 (cr_us S0 9 G) 29 ([(0, .ref (E.2.1 9 0)), (1, .int p1)]) ([.int r26_3]) _
      refine cr_goto X 68 dX9_told_29 rfl ?_
      exact cr_iret X rfl rfl dX9_told_68
  · refine cr_aload_n X 0 rfl dX9_told_5 ?_
    refine cr_get X ((cr_m0 E).at (cr_row S0 9 G 0) rfl) rfl i_X9_told_X9 0 (by decide) k_X9_told_1 rfl dX9_told_6 ?_
    refine cr_sipush X (177 : Int32) (by decide) dX9_told_9 ?_
    refine cr_iload_n X 1 rfl dX9_told_12 ?_
    refine cr_iadd X dX9_told_13 ?_
    refine cr_iald X ((cr_m1 E).at (cr_row S0 9 G 1) rfl) dX9_told_14 ?_
    refine cr_goto X 68 dX9_told_15 rfl ?_
    exact cr_iret X rfl rfl dX9_told_68
theorem c_X9_told_S (l : Launch) (E : cr_E) (hEK : cr_EK E) (S : cr_S) (p1 : Int32) : cr_M l E yX9_told wsX9_told rm_X9_told [.ref (E.2.1 9 0), .int p1] S (cr_vI S) (s_X9_told (S.1 9) p1) := by
  have h := c_X9_told l E hEK S (S.1 9) p1
  rw [cr_us_self] at h
  exact h
theorem k_X9_bring_1 : (Cond.fieldLink RX9 7 "CraneCampaignModel" "z" "[I") ∈ wsX9_bring := List.mem_of_getElem? (i := 1) (by rfl)
theorem k_X9_bring_2 : (Cond.fieldLink RX9 13 "CraneCampaignModel" "aside" "[I") ∈ wsX9_bring := List.mem_of_getElem? (i := 2) (by rfl)
theorem i_X9_bring_X9 : ∀ w ∈ wsX90, w ∈ wsX9_bring := by decide +kernel
abbrev rm_X9_bring : Room := { frames := 0, cells := 0, slots := 0, locals := 0 }
set_option maxHeartbeats 4000000 in
set_option maxRecDepth 100000 in
theorem b_X9_bring_2 {Γ : cr_C} {E : cr_E} (X : cr_X Γ E cX9_bring 2 RX9 wsX9_bring rm_X9_bring none) (S0 : cr_S) : ∀ (n : Nat) (x1 : Int32) (G : cr_G), cr_P Γ E 2 (cr_F Γ E (cr_vVG S0 9)) 0 0 (cr_us S0 9 G) 2 ([(0, .ref (E.2.1 9 0)), (1, .int x1)]) ([]) (s_X9_bring_2 n x1 G) := by
  have hEK := X.2.2.2.2.2.2.1
  intro n
  induction n with
  | zero => intro x1 G; exact cr_none
  | succ n ih =>
    intro x1 G
    rw [s_X9_bring_2]
    refine cr_iload_n X 1 rfl dX9_bring_2 ?_
    refine cr_sipush X (184 : Int32) (by decide) dX9_bring_3 ?_
    refine cr_icmp_ge X 27 dX9_bring_6 rfl ?_ ?_
    · exact cr_vret X rfl rfl dX9_bring_27
    · refine cr_aload_n X 0 rfl dX9_bring_9 ?_
      refine cr_get X ((cr_m0 E).at (cr_row S0 9 G 0) rfl) rfl i_X9_bring_X9 0 (by decide) k_X9_bring_1 rfl dX9_bring_10 ?_
      refine cr_iload_n X 1 rfl dX9_bring_13 ?_
      refine cr_aload_n X 0 rfl dX9_bring_14 ?_
      refine cr_get X ((cr_m0 E).at (cr_row S0 9 G 0) rfl) rfl i_X9_bring_X9 1 (by decide) k_X9_bring_2 rfl dX9_bring_15 ?_
      refine cr_iload_n X 1 rfl dX9_bring_18 ?_
      refine cr_iald X ((cr_m2 E).at (cr_row S0 9 G 2) rfl) dX9_bring_19 ?_
      refine cr_iastG X (cr_m1 E) (fun _ _ => rfl) dX9_bring_20 (fun G20_1 => ?_)
      refine cr_iinc X (x1 + 1) (fun v21_2 => [(1, .int v21_2), (0, .ref (E.2.1 9 0))]) 1 rfl rfl (fun _ => rfl) (by decide) dX9_bring_21 (fun v21_2 => ?_)
      refine cr_goto X 2 dX9_bring_24 rfl ?_
      refine cr_sub (lv' := [(0, .ref (E.2.1 9 0)), (1, .int v21_2)]) [1, 0] rfl ?_
      exact ih v21_2 G20_1
set_option maxHeartbeats 4000000 in
set_option maxRecDepth 100000 in
theorem c_X9_bring (l : Launch) (E : cr_E) (hEK : cr_EK E) (S0 : cr_S) (G : cr_G) : cr_M l E yX9_bring wsX9_bring rm_X9_bring [.ref (E.2.1 9 0)] (cr_us S0 9 G) (cr_vVG S0 9) (s_X9_bring G) := by
  refine cr_enter (cc := cX9_bring) (nL := 2) (rt := none) hEK (by decide) rfl (Nat.le_of_ble_eq_true rfl) (fun Γ hΓ X => ?_)
  subst hΓ
  have X : cr_X Γ E cX9_bring 2 RX9 wsX9_bring rm_X9_bring none := X
  unfold s_X9_bring
  show cr_P Γ E 2 _ 0 0 (cr_us S0 9 G) 0 ([(0, .ref (E.2.1 9 0))]) [] _
  refine cr_iconst X (0 : Int32) (by decide) dX9_bring_0 ?_
  refine cr_istore_n X ([(1, .int ((0 : Int32))), (0, .ref (E.2.1 9 0))]) rfl (by decide) dX9_bring_1 ?_
  refine cr_sub (lv' := [(0, .ref (E.2.1 9 0)), (1, .int ((0 : Int32)))]) [1, 0] rfl ?_
  exact b_X9_bring_2 X S0 1200 ((0 : Int32)) G
theorem c_X9_bring_S (l : Launch) (E : cr_E) (hEK : cr_EK E) (S : cr_S) : cr_M l E yX9_bring wsX9_bring rm_X9_bring [.ref (E.2.1 9 0)] S (cr_vVG S 9) (s_X9_bring   (S.1 9)) := by
  have h := c_X9_bring l E hEK S (S.1 9)
  rw [cr_us_self] at h
  exact h
abbrev rm_X9_after : Room := { frames := 4, cells := 0, slots := 0, locals := 101 }
set_option maxHeartbeats 4000000 in
set_option maxRecDepth 100000 in
theorem c_X9_after (l : Launch) (E : cr_E) (hEK : cr_EK E) (S0 : cr_S) (G : cr_G) (p1 : Int32) (p2 : Int32) : cr_M l E yX9_after wsX9_after rm_X9_after [.ref (E.2.1 9 0), .int p1, .int p2] (cr_us S0 9 G) (cr_vIG S0 9) (s_X9_after p1 p2 G) := by
  refine cr_enter (cc := cX9_after) (nL := 4) (rt := (some .int)) hEK (by decide) rfl (Nat.le_of_ble_eq_true rfl) (fun Γ hΓ X => ?_)
  subst hΓ
  have X : cr_X Γ E cX9_after 4 RX9 wsX9_after rm_X9_after (some .int) := X
  unfold s_X9_after
  show cr_P Γ E 4 _ 0 0 (cr_us S0 9 G) 0 ([(0, .ref (E.2.1 9 0)), (1, .int p1), (2, .int p2)]) [] _
  refine cr_aload_n X 0 rfl dX9_after_0 ?_
  refine cr_callV X (As := []) (rest := []) (c_X9_keep Γ.2.1 E hEK S0 G) ((cr_m0 E).at (cr_row S0 9 G 0) rfl) rfl 0 gX9_after_X9_keep rfl rfl rfl (by decide +kernel) ⟨Nat.le_of_ble_eq_true rfl, Nat.le_of_ble_eq_true rfl⟩ (by decide) rfl rfl (Nat.le_of_ble_eq_true rfl) dX9_after_1 (fun r1_1 => ?_)
  show cr_P Γ E 4 _ 0 0 (cr_us S0 9 r1_1) 4 ([(0, .ref (E.2.1 9 0)), (1, .int p1), (2, .int p2)]) ([]) _
  refine cr_aload_n X 0 rfl dX9_after_4 ?_
  refine cr_iload_n X 1 rfl dX9_after_5 ?_
  refine cr_callV X (As := [.int p1]) (rest := []) (c_X9_goHours Γ.2.1 E hEK S0 r1_1 p1) ((cr_m0 E).at (cr_row S0 9 r1_1 0) rfl) rfl 1 gX9_after_X9_goHours rfl rfl rfl (by decide +kernel) ⟨Nat.le_of_ble_eq_true rfl, Nat.le_of_ble_eq_true rfl⟩ (by decide) rfl rfl (Nat.le_of_ble_eq_true rfl) dX9_after_6 (fun r6_2 => ?_)
  show cr_P Γ E 4 _ 0 0 (cr_us S0 9 r6_2.2) 9 ([(0, .ref (E.2.1 9 0)), (1, .int p1), (2, .int p2)]) ([.int r6_2.1]) _
  refine cr_pop X rfl dX9_after_9 ?_
  refine cr_aload_n X 0 rfl dX9_after_10 ?_
  refine cr_iload_n X 2 rfl dX9_after_11 ?_
  refine cr_callV X (As := [.int p2]) (rest := []) (c_X9_told Γ.2.1 E hEK S0 r6_2.2 p2) ((cr_m0 E).at (cr_row S0 9 r6_2.2 0) rfl) rfl 1 gX9_after_X9_told rfl rfl rfl (by decide +kernel) ⟨Nat.le_of_ble_eq_true rfl, Nat.le_of_ble_eq_true rfl⟩ (by decide) rfl rfl (Nat.le_of_ble_eq_true rfl) dX9_after_12 (fun r12_3 => ?_)
  show cr_P Γ E 4 _ 0 0 (cr_us S0 9 r6_2.2) 15 ([(0, .ref (E.2.1 9 0)), (1, .int p1), (2, .int p2)]) ([.int r12_3]) _
  refine cr_istore_n X ([(3, .int r12_3), (0, .ref (E.2.1 9 0)), (1, .int p1), (2, .int p2)]) rfl (by decide) dX9_after_15 ?_
  refine cr_aload_n X 1 rfl dX9_after_16 ?_
  refine cr_callV X (As := []) (rest := []) (c_X9_bring Γ.2.1 E hEK S0 r6_2.2) ((cr_m0 E).at (cr_row S0 9 r6_2.2 0) rfl) rfl 0 gX9_after_X9_bring rfl rfl rfl (by decide +kernel) ⟨Nat.le_of_ble_eq_true rfl, Nat.le_of_ble_eq_true rfl⟩ (by decide) rfl rfl (Nat.le_of_ble_eq_true rfl) dX9_after_17 (fun r17_4 => ?_)
  show cr_P Γ E 4 _ 0 0 (cr_us S0 9 r17_4) 20 ([(3, .int r12_3), (0, .ref (E.2.1 9 0)), (1, .int p1), (2, .int p2)]) ([]) _
  refine cr_iload_n X 0 rfl dX9_after_20 ?_
  exact cr_iret X rfl rfl dX9_after_21
theorem c_X9_after_S (l : Launch) (E : cr_E) (hEK : cr_EK E) (S : cr_S) (p1 : Int32) (p2 : Int32) : cr_M l E yX9_after wsX9_after rm_X9_after [.ref (E.2.1 9 0), .int p1, .int p2] S (cr_vIG S 9) (s_X9_after  p1 p2 (S.1 9)) := by
  have h := c_X9_after l E hEK S (S.1 9) p1 p2
  rw [cr_us_self] at h
  exact h
theorem k_X9_append_1 : (Cond.fieldLink RX9 28 "CraneCampaignModel" "thrown" "I") ∈ wsX9_append := List.mem_of_getElem? (i := 1) (by rfl)
theorem k_X9_append_2 : (Cond.fieldLink RX9 98 "CraneCampaignModel" "length" "I") ∈ wsX9_append := List.mem_of_getElem? (i := 2) (by rfl)
theorem k_X9_append_3 : (Cond.fieldLink RX9 19 "CraneCampaignModel" "text" "[I") ∈ wsX9_append := List.mem_of_getElem? (i := 3) (by rfl)
theorem i_X9_append_X9 : ∀ w ∈ wsX90, w ∈ wsX9_append := by decide +kernel
abbrev rm_X9_append : Room := { frames := 1, cells := 0, slots := 0, locals := 22 }
set_option maxHeartbeats 4000000 in
set_option maxRecDepth 100000 in
theorem c_X9_append (l : Launch) (E : cr_E) (hEK : cr_EK E) (S0 : cr_S) (G : cr_G) (p1 : Int32) : cr_M l E yX9_append wsX9_append rm_X9_append [.ref (E.2.1 9 0), .int p1] (cr_us S0 9 G) (cr_vIG S0 9) (s_X9_append p1 G) := by
  refine cr_enter (cc := cX9_append) (nL := 2) (rt := (some .int)) hEK (by decide) rfl (Nat.le_of_ble_eq_true rfl) (fun Γ hΓ X => ?_)
  subst hΓ
  have X : cr_X Γ E cX9_append 2 RX9 wsX9_append rm_X9_append (some .int) := X
  unfold s_X9_append
  show cr_P Γ E 2 _ 0 0 (cr_us S0 9 G) 0 ([(0, .ref (E.2.1 9 0)), (1, .int p1)]) [] _
  refine cr_aload_n X 0 rfl dX9_append_0 ?_
  refine cr_iconst X (0 : Int32) (by decide) dX9_append_1 ?_
  refine cr_putG X (cr_m0 E) 7 rfl rfl rfl i_X9_append_X9 tyX9 tyX9_ok nmX9 (by decide) k_X9_append_1 rfl rfl rfl (Nat.le_of_ble_eq_true rfl) dX9_append_2 (fun G2_1 => ?_)
  refine cr_iload_n X 1 rfl dX9_append_5 ?_
  refine cr_bipush X (33 : Int32) (by decide) dX9_append_6 ?_
  refine cr_bipush X (126 : Int32) (by decide) dX9_append_8 ?_
  refine cr_callS X (As := [.int p1, .int ((33 : Int32)), .int ((126 : Int32))]) (rest := []) (c_X9_within Γ.2.1 E hEK ((cr_us S0 9 G2_1)) p1 ((33 : Int32)) ((126 : Int32))) 3 gX9_append_X9_within rfl rfl rfl (by decide +kernel) ⟨Nat.le_of_ble_eq_true rfl, Nat.le_of_ble_eq_true rfl⟩ (by decide) rfl rfl (Nat.le_of_ble_eq_true rfl) dX9_append_10 (fun r10_2 => ?_)
  show cr_P Γ E 2 _ 0 0 (cr_us S0 9 G2_1) 13 ([(0, .ref (E.2.1 9 0)), (1, .int p1)]) ([.int (cr_b r10_2)]) _
  refine cr_ifb_ne X 22 dX9_append_13 rfl ?_ ?_
  · refine cr_aload_n X 0 rfl dX9_append_22 ?_
    refine cr_get X ((cr_m0 E).at (cr_row S0 9 G2_1 0) rfl) rfl i_X9_append_X9 6 (by decide) k_X9_append_2 rfl dX9_append_23 ?_
    refine cr_bipush X (60 : Int32) (by decide) dX9_append_26 ?_
    refine cr_icmp_ne X 37 dX9_append_28 rfl ?_ ?_
    · refine cr_aload_n X 0 rfl dX9_append_37 ?_
      refine cr_get X ((cr_m0 E).at (cr_row S0 9 G2_1 0) rfl) rfl i_X9_append_X9 3 (by decide) k_X9_append_3 rfl dX9_append_38 ?_
      refine cr_aload_n X 0 rfl dX9_append_41 ?_
      refine cr_get X ((cr_m0 E).at (cr_row S0 9 G2_1 0) rfl) rfl i_X9_append_X9 6 (by decide) k_X9_append_2 rfl dX9_append_42 ?_
      refine cr_iload_n X 1 rfl dX9_append_45 ?_
      refine cr_iastG X (cr_m4 E) (fun _ _ => rfl) dX9_append_46 (fun G46_3 => ?_)
      refine cr_aload_n X 0 rfl dX9_append_47 ?_
      refine cr_dup X rfl dX9_append_48 ?_
      refine cr_get X ((cr_m0 E).at (cr_row S0 9 G46_3 0) rfl) rfl i_X9_append_X9 6 (by decide) k_X9_append_2 rfl dX9_append_49 ?_
      refine cr_iconst X (1 : Int32) (by decide) dX9_append_52 ?_
      refine cr_iadd X dX9_append_53 ?_
      refine cr_putG X (cr_m0 E) 6 rfl rfl rfl i_X9_append_X9 tyX9 tyX9_ok nmX9 (by decide) k_X9_append_2 rfl rfl rfl (Nat.le_of_ble_eq_true rfl) dX9_append_54 (fun G54_4 => ?_)
      refine cr_aload_n X 0 rfl dX9_append_57 ?_
      refine cr_get X ((cr_m0 E).at (cr_row S0 9 G54_4 0) rfl) rfl i_X9_append_X9 6 (by decide) k_X9_append_2 rfl dX9_append_58 ?_
      exact cr_iret X rfl rfl dX9_append_61
    · refine cr_aload_n X 0 rfl dX9_append_31 ?_
      refine cr_iconst X (2 : Int32) (by decide) dX9_append_32 ?_
      refine cr_callV X (As := [.int ((2 : Int32))]) (rest := []) (c_X9_fails Γ.2.1 E hEK S0 G2_1 ((2 : Int32))) ((cr_m0 E).at (cr_row S0 9 G2_1 0) rfl) rfl 1 gX9_append_X9_fails rfl rfl rfl (by decide +kernel) ⟨Nat.le_of_ble_eq_true rfl, Nat.le_of_ble_eq_true rfl⟩ (by decide) rfl rfl (Nat.le_of_ble_eq_true rfl) dX9_append_33 (fun r33_5 => ?_)
      show cr_P Γ E 2 _ 0 0 (cr_us S0 9 r33_5.2) 36 ([(0, .ref (E.2.1 9 0)), (1, .int p1)]) ([.int r33_5.1]) _
      exact cr_iret X rfl rfl dX9_append_36
  · refine cr_aload_n X 0 rfl dX9_append_16 ?_
    refine cr_iconst X (1 : Int32) (by decide) dX9_append_17 ?_
    refine cr_callV X (As := [.int ((1 : Int32))]) (rest := []) (c_X9_fails Γ.2.1 E hEK S0 G2_1 ((1 : Int32))) ((cr_m0 E).at (cr_row S0 9 G2_1 0) rfl) rfl 1 gX9_append_X9_fails rfl rfl rfl (by decide +kernel) ⟨Nat.le_of_ble_eq_true rfl, Nat.le_of_ble_eq_true rfl⟩ (by decide) rfl rfl (Nat.le_of_ble_eq_true rfl) dX9_append_18 (fun r18_6 => ?_)
    show cr_P Γ E 2 _ 0 0 (cr_us S0 9 r18_6.2) 21 ([(0, .ref (E.2.1 9 0)), (1, .int p1)]) ([.int r18_6.1]) _
    exact cr_iret X rfl rfl dX9_append_21
theorem c_X9_append_S (l : Launch) (E : cr_E) (hEK : cr_EK E) (S : cr_S) (p1 : Int32) : cr_M l E yX9_append wsX9_append rm_X9_append [.ref (E.2.1 9 0), .int p1] S (cr_vIG S 9) (s_X9_append  p1 (S.1 9)) := by
  have h := c_X9_append l E hEK S (S.1 9) p1
  rw [cr_us_self] at h
  exact h
theorem k_X9_ashore_1 : (Cond.fieldLink RX9 7 "CraneCampaignModel" "z" "[I") ∈ wsX9_ashore := List.mem_of_getElem? (i := 1) (by rfl)
theorem i_X9_ashore_X9 : ∀ w ∈ wsX90, w ∈ wsX9_ashore := by decide +kernel
abbrev rm_X9_ashore : Room := { frames := 0, cells := 0, slots := 0, locals := 0 }
set_option maxHeartbeats 4000000 in
set_option maxRecDepth 100000 in
theorem b_X9_ashore_4 {Γ : cr_C} {E : cr_E} (X : cr_X Γ E cX9_ashore 4 RX9 wsX9_ashore rm_X9_ashore (some .int)) (S0 : cr_S) (G : cr_G) : ∀ (n : Nat) (x1 : Int32) (x2 : Int32) (x3 : Int32), cr_P Γ E 4 (cr_F Γ E (cr_vI (cr_us S0 9 G))) 0 0 (cr_us S0 9 G) 4 ([(0, .ref (E.2.1 9 0)), (1, .int x1), (2, .int x2), (3, .int x3)]) ([]) (s_X9_ashore_4 G n x1 x2 x3) := by
  have hEK := X.2.2.2.2.2.2.1
  intro n
  induction n with
  | zero => intro x1 x2 x3; exact cr_none
  | succ n ih =>
    intro x1 x2 x3
    rw [s_X9_ashore_4]
    refine cr_iload_n X 3 rfl dX9_ashore_4 ?_
    refine cr_aload_n X 0 rfl dX9_ashore_5 ?_
    refine cr_get X ((cr_m0 E).at (cr_row S0 9 G 0) rfl) rfl i_X9_ashore_X9 0 (by decide) k_X9_ashore_1 rfl dX9_ashore_6 ?_
    refine cr_sipush X (156 : Int32) (by decide) dX9_ashore_9 ?_
    refine cr_ialdk X 156 (by decide) (by decide) ((cr_m1 E).at (cr_row S0 9 G 1) rfl) dX9_ashore_12 ?_
    refine cr_icmp_ge X 57 dX9_ashore_13 rfl ?_ ?_
    · refine cr_iload_n X 2 rfl dX9_ashore_57 ?_
      exact cr_iret X rfl rfl dX9_ashore_58
    · refine cr_iload_n X 2 rfl dX9_ashore_16 ?_
      refine cr_aload_n X 0 rfl dX9_ashore_17 ?_
      refine cr_get X ((cr_m0 E).at (cr_row S0 9 G 0) rfl) rfl i_X9_ashore_X9 0 (by decide) k_X9_ashore_1 rfl dX9_ashore_18 ?_
      refine cr_sipush X (157 : Int32) (by decide) dX9_ashore_21 ?_
      refine cr_iload_n X 3 rfl dX9_ashore_24 ?_
      refine cr_iadd X dX9_ashore_25 ?_
      refine cr_iald X ((cr_m1 E).at (cr_row S0 9 G 1) rfl) dX9_ashore_26 ?_
      refine cr_iload_n X 1 rfl dX9_ashore_27 ?_
      refine cr_icmp_ne X 48 dX9_ashore_28 rfl ?_ ?_
      · refine cr_iconst X (0 : Int32) (by decide) dX9_ashore_48 ?_
        refine cr_iadd X dX9_ashore_49 ?_
        refine cr_istore_nb X (fun v50_1 => [(2, .int v50_1), (0, .ref (E.2.1 9 0)), (1, .int x1), (3, .int x3)]) (fun _ => rfl) (by decide) dX9_ashore_50 (fun v50_1 => ?_)
        refine cr_iinc X (x3 + 1) (fun v51_2 => [(3, .int v51_2), (2, .int v50_1), (0, .ref (E.2.1 9 0)), (1, .int x1)]) 3 rfl rfl (fun _ => rfl) (by decide) dX9_ashore_51 (fun v51_2 => ?_)
        refine cr_goto X 4 dX9_ashore_54 rfl ?_
        refine cr_sub (lv' := [(0, .ref (E.2.1 9 0)), (1, .int x1), (2, .int v50_1), (3, .int v51_2)]) [2, 3, 1, 0] rfl ?_
        exact ih x1 v50_1 v51_2
      · refine cr_aload_n X 0 rfl dX9_ashore_31 ?_
        refine cr_get X ((cr_m0 E).at (cr_row S0 9 G 0) rfl) rfl i_X9_ashore_X9 0 (by decide) k_X9_ashore_1 rfl dX9_ashore_32 ?_
        refine cr_sipush X (167 : Int32) (by decide) dX9_ashore_35 ?_
        refine cr_iload_n X 3 rfl dX9_ashore_38 ?_
        refine cr_iadd X dX9_ashore_39 ?_
        refine cr_iald X ((cr_m1 E).at (cr_row S0 9 G 1) rfl) dX9_ashore_40 ?_
        refine cr_if_ne X 48 dX9_ashore_41 rfl ?_ ?_
        · refine cr_iconst X (0 : Int32) (by decide) dX9_ashore_48 ?_
          refine cr_iadd X dX9_ashore_49 ?_
          refine cr_istore_nb X (fun v50_3 => [(2, .int v50_3), (0, .ref (E.2.1 9 0)), (1, .int x1), (3, .int x3)]) (fun _ => rfl) (by decide) dX9_ashore_50 (fun v50_3 => ?_)
          refine cr_iinc X (x3 + 1) (fun v51_4 => [(3, .int v51_4), (2, .int v50_3), (0, .ref (E.2.1 9 0)), (1, .int x1)]) 3 rfl rfl (fun _ => rfl) (by decide) dX9_ashore_51 (fun v51_4 => ?_)
          refine cr_goto X 4 dX9_ashore_54 rfl ?_
          refine cr_sub (lv' := [(0, .ref (E.2.1 9 0)), (1, .int x1), (2, .int v50_3), (3, .int v51_4)]) [2, 3, 1, 0] rfl ?_
          exact ih x1 v50_3 v51_4
        · refine cr_iconst X (1 : Int32) (by decide) dX9_ashore_44 ?_
          refine cr_goto X 49 dX9_ashore_45 rfl ?_
          refine cr_iadd X dX9_ashore_49 ?_
          refine cr_istore_nb X (fun v50_5 => [(2, .int v50_5), (0, .ref (E.2.1 9 0)), (1, .int x1), (3, .int x3)]) (fun _ => rfl) (by decide) dX9_ashore_50 (fun v50_5 => ?_)
          refine cr_iinc X (x3 + 1) (fun v51_6 => [(3, .int v51_6), (2, .int v50_5), (0, .ref (E.2.1 9 0)), (1, .int x1)]) 3 rfl rfl (fun _ => rfl) (by decide) dX9_ashore_51 (fun v51_6 => ?_)
          refine cr_goto X 4 dX9_ashore_54 rfl ?_
          refine cr_sub (lv' := [(0, .ref (E.2.1 9 0)), (1, .int x1), (2, .int v50_5), (3, .int v51_6)]) [2, 3, 1, 0] rfl ?_
          exact ih x1 v50_5 v51_6
set_option maxHeartbeats 4000000 in
set_option maxRecDepth 100000 in
theorem c_X9_ashore (l : Launch) (E : cr_E) (hEK : cr_EK E) (S0 : cr_S) (G : cr_G) (p1 : Int32) : cr_M l E yX9_ashore wsX9_ashore rm_X9_ashore [.ref (E.2.1 9 0), .int p1] (cr_us S0 9 G) (cr_vI (cr_us S0 9 G)) (s_X9_ashore G p1) := by
  refine cr_enter (cc := cX9_ashore) (nL := 4) (rt := (some .int)) hEK (by decide) rfl (Nat.le_of_ble_eq_true rfl) (fun Γ hΓ X => ?_)
  subst hΓ
  have X : cr_X Γ E cX9_ashore 4 RX9 wsX9_ashore rm_X9_ashore (some .int) := X
  unfold s_X9_ashore
  show cr_P Γ E 4 _ 0 0 (cr_us S0 9 G) 0 ([(0, .ref (E.2.1 9 0)), (1, .int p1)]) [] _
  refine cr_iconst X (0 : Int32) (by decide) dX9_ashore_0 ?_
  refine cr_istore_n X ([(2, .int ((0 : Int32))), (0, .ref (E.2.1 9 0)), (1, .int p1)]) rfl (by decide) dX9_ashore_1 ?_
  refine cr_iconst X (0 : Int32) (by decide) dX9_ashore_2 ?_
  refine cr_istore_n X ([(3, .int ((0 : Int32))), (2, .int ((0 : Int32))), (0, .ref (E.2.1 9 0)), (1, .int p1)]) rfl (by decide) dX9_ashore_3 ?_
  refine cr_sub (lv' := [(0, .ref (E.2.1 9 0)), (1, .int p1), (2, .int ((0 : Int32))), (3, .int ((0 : Int32)))]) [2, 3, 1, 0] rfl ?_
  exact b_X9_ashore_4 X S0 G 1200 p1 ((0 : Int32)) ((0 : Int32))
theorem c_X9_ashore_S (l : Launch) (E : cr_E) (hEK : cr_EK E) (S : cr_S) (p1 : Int32) : cr_M l E yX9_ashore wsX9_ashore rm_X9_ashore [.ref (E.2.1 9 0), .int p1] S (cr_vI S) (s_X9_ashore (S.1 9) p1) := by
  have h := c_X9_ashore l E hEK S (S.1 9) p1
  rw [cr_us_self] at h
  exact h
theorem k_X9_bestNow_1 : (Cond.fieldLink RX9 7 "CraneCampaignModel" "z" "[I") ∈ wsX9_bestNow := List.mem_of_getElem? (i := 1) (by rfl)
theorem k_X9_bestNow_2 : (Cond.fieldLink RX9 13 "CraneCampaignModel" "aside" "[I") ∈ wsX9_bestNow := List.mem_of_getElem? (i := 2) (by rfl)
theorem i_X9_bestNow_X9 : ∀ w ∈ wsX90, w ∈ wsX9_bestNow := by decide +kernel
abbrev rm_X9_bestNow : Room := { frames := 4, cells := 0, slots := 0, locals := 101 }
set_option maxHeartbeats 4000000 in
set_option maxRecDepth 100000 in
theorem b_X9_bestNow_140 {Γ : cr_C} {E : cr_E} (X : cr_X Γ E cX9_bestNow 6 RX9 wsX9_bestNow rm_X9_bestNow (some .int)) (S0 : cr_S) (k20 : Int32 → Int32 → Int32 → Int32 → cr_G → Option (Int32 × cr_G)) (hk20 : ∀ (x1 : Int32) (x2 : Int32) (x3 : Int32) (x4 : Int32) (G : cr_G), cr_P Γ E 6 (cr_F Γ E (cr_vIG S0 9)) 0 0 (cr_us S0 9 G) 20 ([(0, .ref (E.2.1 9 0)), (1, .int x1), (2, .int x2), (3, .int x3), (4, .int x4)]) [] (k20 x1 x2 x3 x4 G)) (x1 : Int32) (x3 : Int32) (x4 : Int32) (y0 : Int32) (G : cr_G) : cr_P Γ E 6 (cr_F Γ E (cr_vIG S0 9)) 0 0 (cr_us S0 9 G) 140 ([(0, .ref (E.2.1 9 0)), (1, .int x1), (3, .int x3), (4, .int x4)]) ([.int y0]) (s_X9_bestNow_140 k20 x1 x3 x4 y0 G) := by
  have hEK := X.2.2.2.2.2.2.1
  unfold s_X9_bestNow_140
  refine cr_istore_n X ([(2, .int y0), (0, .ref (E.2.1 9 0)), (1, .int x1), (3, .int x3), (4, .int x4)]) rfl (by decide) dX9_bestNow_140 ?_
  refine cr_aload_n X 1 rfl dX9_bestNow_141 ?_
  refine cr_callV X (As := []) (rest := []) (c_X9_bring Γ.2.1 E hEK S0 G) ((cr_m0 E).at (cr_row S0 9 G 0) rfl) rfl 0 gX9_bestNow_X9_bring rfl rfl rfl (by decide +kernel) ⟨Nat.le_of_ble_eq_true rfl, Nat.le_of_ble_eq_true rfl⟩ (by decide) rfl rfl (Nat.le_of_ble_eq_true rfl) dX9_bestNow_142 (fun r142_7 => ?_)
  show cr_P Γ E 6 _ 0 0 (cr_us S0 9 r142_7) 145 ([(2, .int y0), (0, .ref (E.2.1 9 0)), (1, .int x1), (3, .int x3), (4, .int x4)]) ([]) _
  refine cr_iinc X (x4 + 1) (fun v145_8 => [(4, .int v145_8), (2, .int y0), (0, .ref (E.2.1 9 0)), (1, .int x1), (3, .int x3)]) 4 rfl rfl (fun _ => rfl) (by decide) dX9_bestNow_145 (fun v145_8 => ?_)
  refine cr_goto X 20 dX9_bestNow_148 rfl ?_
  refine cr_sub (lv' := [(0, .ref (E.2.1 9 0)), (1, .int x1), (2, .int y0), (3, .int x3), (4, .int v145_8)]) [2, 3, 1, 4, 0] rfl ?_
  exact hk20 x1 y0 x3 v145_8 r142_7
set_option maxHeartbeats 4000000 in
set_option maxRecDepth 100000 in
theorem b_X9_bestNow_118 {Γ : cr_C} {E : cr_E} (X : cr_X Γ E cX9_bestNow 6 RX9 wsX9_bestNow rm_X9_bestNow (some .int)) (S0 : cr_S) (k20 : Int32 → Int32 → Int32 → Int32 → cr_G → Option (Int32 × cr_G)) (hk20 : ∀ (x1 : Int32) (x2 : Int32) (x3 : Int32) (x4 : Int32) (G : cr_G), cr_P Γ E 6 (cr_F Γ E (cr_vIG S0 9)) 0 0 (cr_us S0 9 G) 20 ([(0, .ref (E.2.1 9 0)), (1, .int x1), (2, .int x2), (3, .int x3), (4, .int x4)]) [] (k20 x1 x2 x3 x4 G)) (x2 : Int32) (x3 : Int32) (x4 : Int32) (x5 : Int32) (y0 : Int32) (G : cr_G) : cr_P Γ E 6 (cr_F Γ E (cr_vIG S0 9)) 0 0 (cr_us S0 9 G) 118 ([(0, .ref (E.2.1 9 0)), (2, .int x2), (3, .int x3), (4, .int x4), (5, .int x5)]) ([.int y0]) (s_X9_bestNow_118 k20 x2 x3 x4 x5 y0 G) := by
  have hEK := X.2.2.2.2.2.2.1
  unfold s_X9_bestNow_118
  refine cr_istore_n X ([(1, .int y0), (0, .ref (E.2.1 9 0)), (2, .int x2), (3, .int x3), (4, .int x4), (5, .int x5)]) rfl (by decide) dX9_bestNow_118 ?_
  refine cr_iload_n X 0 rfl dX9_bestNow_119 ?_
  refine cr_aload_n X 1 rfl dX9_bestNow_120 ?_
  refine cr_get X ((cr_m0 E).at (cr_row S0 9 G 0) rfl) rfl i_X9_bestNow_X9 1 (by decide) k_X9_bestNow_2 rfl dX9_bestNow_121 ?_
  refine cr_sipush X (146 : Int32) (by decide) dX9_bestNow_124 ?_
  refine cr_iload X 4 rfl dX9_bestNow_127 ?_
  refine cr_iadd X dX9_bestNow_129 ?_
  refine cr_iald X ((cr_m2 E).at (cr_row S0 9 G 2) rfl) dX9_bestNow_130 ?_
  refine cr_icmp_ne X 139 dX9_bestNow_131 rfl ?_ ?_
  · refine cr_iload_n X 2 rfl dX9_bestNow_139 ?_
    refine cr_sub (lv' := [(0, .ref (E.2.1 9 0)), (1, .int y0), (3, .int x3), (4, .int x4)]) [1, 0, 3, 4] rfl ?_
    exact b_X9_bestNow_140 X S0 k20 hk20 y0 x3 x4 x2 G
  · refine cr_iload X 5 rfl dX9_bestNow_134 ?_
    refine cr_goto X 140 dX9_bestNow_136 rfl ?_
    refine cr_sub (lv' := [(0, .ref (E.2.1 9 0)), (1, .int y0), (3, .int x3), (4, .int x4)]) [1, 0, 3, 4] rfl ?_
    exact b_X9_bestNow_140 X S0 k20 hk20 y0 x3 x4 x5 G
set_option maxHeartbeats 4000000 in
set_option maxRecDepth 100000 in
theorem b_X9_bestNow_30 {Γ : cr_C} {E : cr_E} (X : cr_X Γ E cX9_bestNow 6 RX9 wsX9_bestNow rm_X9_bestNow (some .int)) (S0 : cr_S) (k20 : Int32 → Int32 → Int32 → Int32 → cr_G → Option (Int32 × cr_G)) (hk20 : ∀ (x1 : Int32) (x2 : Int32) (x3 : Int32) (x4 : Int32) (G : cr_G), cr_P Γ E 6 (cr_F Γ E (cr_vIG S0 9)) 0 0 (cr_us S0 9 G) 20 ([(0, .ref (E.2.1 9 0)), (1, .int x1), (2, .int x2), (3, .int x3), (4, .int x4)]) [] (k20 x1 x2 x3 x4 G)) : ∀ (n : Nat) (x1 : Int32) (x2 : Int32) (x3 : Int32) (x4 : Int32) (x5 : Int32) (G : cr_G), cr_P Γ E 6 (cr_F Γ E (cr_vIG S0 9)) 0 0 (cr_us S0 9 G) 30 ([(0, .ref (E.2.1 9 0)), (1, .int x1), (2, .int x2), (3, .int x3), (4, .int x4), (5, .int x5)]) ([]) (s_X9_bestNow_30 k20 n x1 x2 x3 x4 x5 G) := by
  have hEK := X.2.2.2.2.2.2.1
  intro n
  induction n with
  | zero => intro x1 x2 x3 x4 x5 G; exact cr_none
  | succ n ih =>
    intro x1 x2 x3 x4 x5 G
    rw [s_X9_bestNow_30]
    refine cr_iload X 5 rfl dX9_bestNow_30 ?_
    refine cr_if_le X 65 dX9_bestNow_32 rfl ?_ ?_
    · refine cr_aload_n X 0 rfl dX9_bestNow_65 ?_
      refine cr_get X ((cr_m0 E).at (cr_row S0 9 G 0) rfl) rfl i_X9_bestNow_X9 0 (by decide) k_X9_bestNow_1 rfl dX9_bestNow_66 ?_
      refine cr_sipush X (146 : Int32) (by decide) dX9_bestNow_69 ?_
      refine cr_aload_n X 0 rfl dX9_bestNow_72 ?_
      refine cr_get X ((cr_m0 E).at (cr_row S0 9 G 0) rfl) rfl i_X9_bestNow_X9 1 (by decide) k_X9_bestNow_2 rfl dX9_bestNow_73 ?_
      refine cr_sipush X (146 : Int32) (by decide) dX9_bestNow_76 ?_
      refine cr_iload X 4 rfl dX9_bestNow_79 ?_
      refine cr_iadd X dX9_bestNow_81 ?_
      refine cr_iald X ((cr_m2 E).at (cr_row S0 9 G 2) rfl) dX9_bestNow_82 ?_
      refine cr_iastGk X 146 (cr_m1 E) (fun _ _ => rfl) (by decide) (by decide) dX9_bestNow_83 (fun G83_3 => ?_)
      refine cr_aload_n X 0 rfl dX9_bestNow_84 ?_
      refine cr_bipush X (48 : Int32) (by decide) dX9_bestNow_85 ?_
      refine cr_callV X (As := [.int ((48 : Int32))]) (rest := []) (c_X9_goHours Γ.2.1 E hEK S0 G83_3 ((48 : Int32))) ((cr_m0 E).at (cr_row S0 9 G83_3 0) rfl) rfl 1 gX9_bestNow_X9_goHours rfl rfl rfl (by decide +kernel) ⟨Nat.le_of_ble_eq_true rfl, Nat.le_of_ble_eq_true rfl⟩ (by decide) rfl rfl (Nat.le_of_ble_eq_true rfl) dX9_bestNow_87 (fun r87_4 => ?_)
      show cr_P Γ E 6 _ 0 0 (cr_us S0 9 r87_4.2) 90 ([(0, .ref (E.2.1 9 0)), (1, .int x1), (2, .int x2), (3, .int x3), (4, .int x4), (5, .int x5)]) ([.int r87_4.1]) _
      refine cr_istore X ([(5, .int r87_4.1), (0, .ref (E.2.1 9 0)), (1, .int x1), (2, .int x2), (3, .int x3), (4, .int x4)]) rfl (by decide) dX9_bestNow_90 ?_
      refine cr_iload_n X 2 rfl dX9_bestNow_92 ?_
      refine cr_iconst X (-1 : Int32) (by decide) dX9_bestNow_93 ?_
      refine cr_icmp_eq X 103 dX9_bestNow_94 rfl ?_ ?_
      · refine cr_aload_n X 1 rfl dX9_bestNow_103 ?_
        refine cr_get X ((cr_m0 E).at (cr_row S0 9 r87_4.2 0) rfl) rfl i_X9_bestNow_X9 1 (by decide) k_X9_bestNow_2 rfl dX9_bestNow_104 ?_
        refine cr_sipush X (146 : Int32) (by decide) dX9_bestNow_107 ?_
        refine cr_iload X 5 rfl dX9_bestNow_110 ?_
        refine cr_iadd X dX9_bestNow_112 ?_
        refine cr_iald X ((cr_m2 E).at (cr_row S0 9 r87_4.2 2) rfl) dX9_bestNow_113 ?_
        refine cr_goto X 118 dX9_bestNow_114 rfl ?_
        refine cr_sub (lv' := [(0, .ref (E.2.1 9 0)), (2, .int x2), (3, .int x3), (4, .int x4), (5, .int r87_4.1)]) [1, 3, 4, 5, 0] rfl ?_
        exact b_X9_bestNow_118 X S0 k20 hk20 x2 x3 x4 r87_4.1 (((r87_4.2 2) (((146 : Int32) + x4)).toNatClampNeg)) r87_4.2
      · refine cr_iload X 0 rfl dX9_bestNow_97 ?_
        refine cr_iload_n X 3 rfl dX9_bestNow_99 ?_
        refine cr_icmp_ge X 117 dX9_bestNow_100 rfl ?_ ?_
        · refine cr_iload_n X 2 rfl dX9_bestNow_117 ?_
          refine cr_sub (lv' := [(0, .ref (E.2.1 9 0)), (2, .int x2), (3, .int x3), (4, .int x4), (5, .int r87_4.1)]) [1, 3, 4, 5, 0] rfl ?_
          exact b_X9_bestNow_118 X S0 k20 hk20 x2 x3 x4 r87_4.1 x1 r87_4.2
        · refine cr_aload_n X 1 rfl dX9_bestNow_103 ?_
          refine cr_get X ((cr_m0 E).at (cr_row S0 9 r87_4.2 0) rfl) rfl i_X9_bestNow_X9 1 (by decide) k_X9_bestNow_2 rfl dX9_bestNow_104 ?_
          refine cr_sipush X (146 : Int32) (by decide) dX9_bestNow_107 ?_
          refine cr_iload X 5 rfl dX9_bestNow_110 ?_
          refine cr_iadd X dX9_bestNow_112 ?_
          refine cr_iald X ((cr_m2 E).at (cr_row S0 9 r87_4.2 2) rfl) dX9_bestNow_113 ?_
          refine cr_goto X 118 dX9_bestNow_114 rfl ?_
          refine cr_sub (lv' := [(0, .ref (E.2.1 9 0)), (2, .int x2), (3, .int x3), (4, .int x4), (5, .int r87_4.1)]) [1, 3, 4, 5, 0] rfl ?_
          exact b_X9_bestNow_118 X S0 k20 hk20 x2 x3 x4 r87_4.1 (((r87_4.2 2) (((146 : Int32) + x4)).toNatClampNeg)) r87_4.2
    · refine cr_aload_n X 0 rfl dX9_bestNow_35 ?_
      refine cr_get X ((cr_m0 E).at (cr_row S0 9 G 0) rfl) rfl i_X9_bestNow_X9 0 (by decide) k_X9_bestNow_1 rfl dX9_bestNow_36 ?_
      refine cr_sipush X (146 : Int32) (by decide) dX9_bestNow_39 ?_
      refine cr_iload X 5 rfl dX9_bestNow_42 ?_
      refine cr_iadd X dX9_bestNow_44 ?_
      refine cr_aload_n X 0 rfl dX9_bestNow_45 ?_
      refine cr_get X ((cr_m0 E).at (cr_row S0 9 G 0) rfl) rfl i_X9_bestNow_X9 0 (by decide) k_X9_bestNow_1 rfl dX9_bestNow_46 ?_
      refine cr_sipush X (146 : Int32) (by decide) dX9_bestNow_49 ?_
      refine cr_iload X 5 rfl dX9_bestNow_52 ?_
      refine cr_iadd X dX9_bestNow_54 ?_
      refine cr_iconst X (1 : Int32) (by decide) dX9_bestNow_55 ?_
      refine cr_isub X dX9_bestNow_56 ?_
      refine cr_iald X ((cr_m1 E).at (cr_row S0 9 G 1) rfl) dX9_bestNow_57 ?_
      refine cr_iastG X (cr_m1 E) (fun _ _ => rfl) dX9_bestNow_58 (fun G58_5 => ?_)
      refine cr_iinc X (x5 + (-1)) (fun v59_6 => [(5, .int v59_6), (0, .ref (E.2.1 9 0)), (1, .int x1), (2, .int x2), (3, .int x3), (4, .int x4)]) 5 rfl (congrArg (fun z => x5 + z) (show Int32.ofInt (-1) = (-1 : Int32) by decide)) (fun _ => rfl) (by decide) dX9_bestNow_59 (fun v59_6 => ?_)
      refine cr_goto X 30 dX9_bestNow_62 rfl ?_
      refine cr_sub (lv' := [(0, .ref (E.2.1 9 0)), (1, .int x1), (2, .int x2), (3, .int x3), (4, .int x4), (5, .int v59_6)]) [1, 2, 3, 4, 5, 0] rfl ?_
      exact ih x1 x2 x3 x4 v59_6 G58_5
set_option maxHeartbeats 4000000 in
set_option maxRecDepth 100000 in
theorem b_X9_bestNow_20 {Γ : cr_C} {E : cr_E} (X : cr_X Γ E cX9_bestNow 6 RX9 wsX9_bestNow rm_X9_bestNow (some .int)) (S0 : cr_S) : ∀ (n : Nat) (x1 : Int32) (x2 : Int32) (x3 : Int32) (x4 : Int32) (G : cr_G), cr_P Γ E 6 (cr_F Γ E (cr_vIG S0 9)) 0 0 (cr_us S0 9 G) 20 ([(0, .ref (E.2.1 9 0)), (1, .int x1), (2, .int x2), (3, .int x3), (4, .int x4)]) ([]) (s_X9_bestNow_20 n x1 x2 x3 x4 G) := by
  have hEK := X.2.2.2.2.2.2.1
  intro n
  induction n with
  | zero => intro x1 x2 x3 x4 G; exact cr_none
  | succ n ih =>
    intro x1 x2 x3 x4 G
    rw [s_X9_bestNow_20]
    refine cr_iload X 4 rfl dX9_bestNow_20 ?_
    refine cr_iload_n X 3 rfl dX9_bestNow_22 ?_
    refine cr_icmp_ge X 151 dX9_bestNow_23 rfl ?_ ?_
    · refine cr_iload_n X 1 rfl dX9_bestNow_151 ?_
      exact cr_iret X rfl rfl dX9_bestNow_152
    · refine cr_iload X 4 rfl dX9_bestNow_26 ?_
      refine cr_istore X ([(5, .int x4), (0, .ref (E.2.1 9 0)), (1, .int x1), (2, .int x2), (3, .int x3), (4, .int x4)]) rfl (by decide) dX9_bestNow_28 ?_
      refine cr_sub (lv' := [(0, .ref (E.2.1 9 0)), (1, .int x1), (2, .int x2), (3, .int x3), (4, .int x4), (5, .int x4)]) [1, 2, 3, 4, 5, 0] rfl ?_
      exact b_X9_bestNow_30 X S0 (fun x1a x2a x3a x4a Ga => s_X9_bestNow_20 n x1a x2a x3a x4a Ga) ih 1200 x1 x2 x3 x4 x4 G
set_option maxHeartbeats 4000000 in
set_option maxRecDepth 100000 in
theorem c_X9_bestNow (l : Launch) (E : cr_E) (hEK : cr_EK E) (S0 : cr_S) (G : cr_G) : cr_M l E yX9_bestNow wsX9_bestNow rm_X9_bestNow [.ref (E.2.1 9 0)] (cr_us S0 9 G) (cr_vIG S0 9) (s_X9_bestNow G) := by
  refine cr_enter (cc := cX9_bestNow) (nL := 6) (rt := (some .int)) hEK (by decide) rfl (Nat.le_of_ble_eq_true rfl) (fun Γ hΓ X => ?_)
  subst hΓ
  have X : cr_X Γ E cX9_bestNow 6 RX9 wsX9_bestNow rm_X9_bestNow (some .int) := X
  unfold s_X9_bestNow
  show cr_P Γ E 6 _ 0 0 (cr_us S0 9 G) 0 ([(0, .ref (E.2.1 9 0))]) [] _
  refine cr_iconst X (-1 : Int32) (by decide) dX9_bestNow_0 ?_
  refine cr_istore_n X ([(1, .int ((-1 : Int32))), (0, .ref (E.2.1 9 0))]) rfl (by decide) dX9_bestNow_1 ?_
  refine cr_iconst X (0 : Int32) (by decide) dX9_bestNow_2 ?_
  refine cr_istore_n X ([(2, .int ((0 : Int32))), (1, .int ((-1 : Int32))), (0, .ref (E.2.1 9 0))]) rfl (by decide) dX9_bestNow_3 ?_
  refine cr_aload_n X 2 rfl dX9_bestNow_4 ?_
  refine cr_callV X (As := []) (rest := []) (c_X9_keep Γ.2.1 E hEK S0 G) ((cr_m0 E).at (cr_row S0 9 G 0) rfl) rfl 0 gX9_bestNow_X9_keep rfl rfl rfl (by decide +kernel) ⟨Nat.le_of_ble_eq_true rfl, Nat.le_of_ble_eq_true rfl⟩ (by decide) rfl rfl (Nat.le_of_ble_eq_true rfl) dX9_bestNow_5 (fun r5_1 => ?_)
  show cr_P Γ E 6 _ 0 0 (cr_us S0 9 r5_1) 8 ([(2, .int ((0 : Int32))), (1, .int ((-1 : Int32))), (0, .ref (E.2.1 9 0))]) ([]) _
  refine cr_aload_n X 2 rfl dX9_bestNow_8 ?_
  refine cr_get X ((cr_m0 E).at (cr_row S0 9 r5_1 0) rfl) rfl i_X9_bestNow_X9 0 (by decide) k_X9_bestNow_1 rfl dX9_bestNow_9 ?_
  refine cr_sipush X (145 : Int32) (by decide) dX9_bestNow_12 ?_
  refine cr_ialdk X 145 (by decide) (by decide) ((cr_m1 E).at (cr_row S0 9 r5_1 1) rfl) dX9_bestNow_15 ?_
  refine cr_istore_nb X (fun v16_2 => [(3, .int v16_2), (2, .int ((0 : Int32))), (1, .int ((-1 : Int32))), (0, .ref (E.2.1 9 0))]) (fun _ => rfl) (by decide) dX9_bestNow_16 (fun v16_2 => ?_)
  refine cr_iconst X (0 : Int32) (by decide) dX9_bestNow_17 ?_
  refine cr_istore X ([(4, .int ((0 : Int32))), (3, .int v16_2), (2, .int ((0 : Int32))), (1, .int ((-1 : Int32))), (0, .ref (E.2.1 9 0))]) rfl (by decide) dX9_bestNow_18 ?_
  refine cr_sub (lv' := [(0, .ref (E.2.1 9 0)), (1, .int ((-1 : Int32))), (2, .int ((0 : Int32))), (3, .int v16_2), (4, .int ((0 : Int32)))]) [4, 3, 2, 1, 0] rfl ?_
  exact b_X9_bestNow_20 X S0 1200 ((-1 : Int32)) ((0 : Int32)) v16_2 ((0 : Int32)) r5_1
theorem c_X9_bestNow_S (l : Launch) (E : cr_E) (hEK : cr_EK E) (S : cr_S) : cr_M l E yX9_bestNow wsX9_bestNow rm_X9_bestNow [.ref (E.2.1 9 0)] S (cr_vIG S 9) (s_X9_bestNow   (S.1 9)) := by
  have h := c_X9_bestNow l E hEK S (S.1 9)
  rw [cr_us_self] at h
  exact h
theorem k_X9_bestFirst_1 : (Cond.fieldLink RX9 28 "CraneCampaignModel" "thrown" "I") ∈ wsX9_bestFirst := List.mem_of_getElem? (i := 1) (by rfl)
theorem i_X9_bestFirst_X9 : ∀ w ∈ wsX90, w ∈ wsX9_bestFirst := by decide +kernel
abbrev rm_X9_bestFirst : Room := { frames := 5, cells := 0, slots := 0, locals := 126 }
set_option maxHeartbeats 4000000 in
set_option maxRecDepth 100000 in
theorem c_X9_bestFirst (l : Launch) (E : cr_E) (hEK : cr_EK E) (S0 : cr_S) (G : cr_G) : cr_M l E yX9_bestFirst wsX9_bestFirst rm_X9_bestFirst [.ref (E.2.1 9 0)] (cr_us S0 9 G) (cr_vIG S0 9) (s_X9_bestFirst G) := by
  refine cr_enter (cc := cX9_bestFirst) (nL := 1) (rt := (some .int)) hEK (by decide) rfl (Nat.le_of_ble_eq_true rfl) (fun Γ hΓ X => ?_)
  subst hΓ
  have X : cr_X Γ E cX9_bestFirst 1 RX9 wsX9_bestFirst rm_X9_bestFirst (some .int) := X
  unfold s_X9_bestFirst
  show cr_P Γ E 1 _ 0 0 (cr_us S0 9 G) 0 ([(0, .ref (E.2.1 9 0))]) [] _
  refine cr_aload_n X 0 rfl dX9_bestFirst_0 ?_
  refine cr_iconst X (0 : Int32) (by decide) dX9_bestFirst_1 ?_
  refine cr_putG X (cr_m0 E) 7 rfl rfl rfl i_X9_bestFirst_X9 tyX9 tyX9_ok nmX9 (by decide) k_X9_bestFirst_1 rfl rfl rfl (Nat.le_of_ble_eq_true rfl) dX9_bestFirst_2 (fun G2_1 => ?_)
  refine cr_aload_n X 0 rfl dX9_bestFirst_5 ?_
  refine cr_callV X (As := []) (rest := []) (c_X9_bestNow Γ.2.1 E hEK S0 G2_1) ((cr_m0 E).at (cr_row S0 9 G2_1 0) rfl) rfl 0 gX9_bestFirst_X9_bestNow rfl rfl rfl (by decide +kernel) ⟨Nat.le_of_ble_eq_true rfl, Nat.le_of_ble_eq_true rfl⟩ (by decide) rfl rfl (Nat.le_of_ble_eq_true rfl) dX9_bestFirst_6 (fun r6_2 => ?_)
  show cr_P Γ E 1 _ 0 0 (cr_us S0 9 r6_2.2) 9 ([(0, .ref (E.2.1 9 0))]) ([.int r6_2.1]) _
  exact cr_iret X rfl rfl dX9_bestFirst_9
theorem c_X9_bestFirst_S (l : Launch) (E : cr_E) (hEK : cr_EK E) (S : cr_S) : cr_M l E yX9_bestFirst wsX9_bestFirst rm_X9_bestFirst [.ref (E.2.1 9 0)] S (cr_vIG S 9) (s_X9_bestFirst   (S.1 9)) := by
  have h := c_X9_bestFirst l E hEK S (S.1 9)
  rw [cr_us_self] at h
  exact h
theorem k_X9_blade_1 : (Cond.fieldLink RX9 28 "CraneCampaignModel" "thrown" "I") ∈ wsX9_blade := List.mem_of_getElem? (i := 1) (by rfl)
theorem k_X9_blade_2 : (Cond.fieldLink RX9 7 "CraneCampaignModel" "z" "[I") ∈ wsX9_blade := List.mem_of_getElem? (i := 2) (by rfl)
theorem i_X9_blade_X9 : ∀ w ∈ wsX90, w ∈ wsX9_blade := by decide +kernel
abbrev rm_X9_blade : Room := { frames := 1, cells := 0, slots := 0, locals := 22 }
set_option maxHeartbeats 4000000 in
set_option maxRecDepth 100000 in
theorem c_X9_blade (l : Launch) (E : cr_E) (hEK : cr_EK E) (S0 : cr_S) (G : cr_G) (p1 : Int32) (p2 : Int32) : cr_M l E yX9_blade wsX9_blade rm_X9_blade [.ref (E.2.1 9 0), .int p1, .int p2] (cr_us S0 9 G) (cr_vIG S0 9) (s_X9_blade p1 p2 G) := by
  refine cr_enter (cc := cX9_blade) (nL := 3) (rt := (some .int)) hEK (by decide) rfl (Nat.le_of_ble_eq_true rfl) (fun Γ hΓ X => ?_)
  subst hΓ
  have X : cr_X Γ E cX9_blade 3 RX9 wsX9_blade rm_X9_blade (some .int) := X
  unfold s_X9_blade
  show cr_P Γ E 3 _ 0 0 (cr_us S0 9 G) 0 ([(0, .ref (E.2.1 9 0)), (1, .int p1), (2, .int p2)]) [] _
  refine cr_aload_n X 0 rfl dX9_blade_0 ?_
  refine cr_iconst X (0 : Int32) (by decide) dX9_blade_1 ?_
  refine cr_putG X (cr_m0 E) 7 rfl rfl rfl i_X9_blade_X9 tyX9 tyX9_ok nmX9 (by decide) k_X9_blade_1 rfl rfl rfl (Nat.le_of_ble_eq_true rfl) dX9_blade_2 (fun G2_1 => ?_)
  refine cr_iload_n X 1 rfl dX9_blade_5 ?_
  refine cr_iconst X (0 : Int32) (by decide) dX9_blade_6 ?_
  refine cr_aload_n X 0 rfl dX9_blade_7 ?_
  refine cr_get X ((cr_m0 E).at (cr_row S0 9 G2_1 0) rfl) rfl i_X9_blade_X9 0 (by decide) k_X9_blade_2 rfl dX9_blade_8 ?_
  refine cr_sipush X (156 : Int32) (by decide) dX9_blade_11 ?_
  refine cr_ialdk X 156 (by decide) (by decide) ((cr_m1 E).at (cr_row S0 9 G2_1 1) rfl) dX9_blade_14 ?_
  refine cr_iconst X (1 : Int32) (by decide) dX9_blade_15 ?_
  refine cr_isub X dX9_blade_16 ?_
  refine cr_callS X (As := [.int p1, .int ((0 : Int32)), .int ((((G2_1 1) 156) - (1 : Int32)))]) (rest := []) (c_X9_within Γ.2.1 E hEK ((cr_us S0 9 G2_1)) p1 ((0 : Int32)) ((((G2_1 1) 156) - (1 : Int32)))) 3 gX9_blade_X9_within rfl rfl rfl (by decide +kernel) ⟨Nat.le_of_ble_eq_true rfl, Nat.le_of_ble_eq_true rfl⟩ (by decide) rfl rfl (Nat.le_of_ble_eq_true rfl) dX9_blade_17 (fun r17_2 => ?_)
  show cr_P Γ E 3 _ 0 0 (cr_us S0 9 G2_1) 20 ([(0, .ref (E.2.1 9 0)), (1, .int p1), (2, .int p2)]) ([.int (cr_b r17_2)]) _
  refine cr_ifb_ne X 29 dX9_blade_20 rfl ?_ ?_
  · refine cr_iload_n X 2 rfl dX9_blade_29 ?_
    refine cr_iconst X (0 : Int32) (by decide) dX9_blade_30 ?_
    refine cr_iconst X (1 : Int32) (by decide) dX9_blade_31 ?_
    refine cr_callS X (As := [.int p2, .int ((0 : Int32)), .int ((1 : Int32))]) (rest := []) (c_X9_within Γ.2.1 E hEK ((cr_us S0 9 G2_1)) p2 ((0 : Int32)) ((1 : Int32))) 3 gX9_blade_X9_within rfl rfl rfl (by decide +kernel) ⟨Nat.le_of_ble_eq_true rfl, Nat.le_of_ble_eq_true rfl⟩ (by decide) rfl rfl (Nat.le_of_ble_eq_true rfl) dX9_blade_32 (fun r32_3 => ?_)
    show cr_P Γ E 3 _ 0 0 (cr_us S0 9 G2_1) 35 ([(0, .ref (E.2.1 9 0)), (1, .int p1), (2, .int p2)]) ([.int (cr_b r32_3)]) _
    refine cr_ifb_eq X 61 dX9_blade_35 rfl ?_ ?_
    · refine cr_aload_n X 0 rfl dX9_blade_61 ?_
      refine cr_iconst X (2 : Int32) (by decide) dX9_blade_62 ?_
      refine cr_callV X (As := [.int ((2 : Int32))]) (rest := []) (c_X9_fails Γ.2.1 E hEK S0 G2_1 ((2 : Int32))) ((cr_m0 E).at (cr_row S0 9 G2_1 0) rfl) rfl 1 gX9_blade_X9_fails rfl rfl rfl (by decide +kernel) ⟨Nat.le_of_ble_eq_true rfl, Nat.le_of_ble_eq_true rfl⟩ (by decide) rfl rfl (Nat.le_of_ble_eq_true rfl) dX9_blade_63 (fun r63_4 => ?_)
      show cr_P Γ E 3 _ 0 0 (cr_us S0 9 r63_4.2) 66 ([(0, .ref (E.2.1 9 0)), (1, .int p1), (2, .int p2)]) ([.int r63_4.1]) _
      exact cr_iret X rfl rfl dX9_blade_66
    · refine cr_aload_n X 0 rfl dX9_blade_38 ?_
      refine cr_get X ((cr_m0 E).at (cr_row S0 9 G2_1 0) rfl) rfl i_X9_blade_X9 0 (by decide) k_X9_blade_2 rfl dX9_blade_39 ?_
      refine cr_iload_n X 2 rfl dX9_blade_42 ?_
      refine cr_if_ne X 52 dX9_blade_43 rfl ?_ ?_
      · refine cr_sipush X (167 : Int32) (by decide) dX9_blade_52 ?_
        refine cr_iload_n X 1 rfl dX9_blade_55 ?_
        refine cr_iadd X dX9_blade_56 ?_
        refine cr_iald X ((cr_m1 E).at (cr_row S0 9 G2_1 1) rfl) dX9_blade_57 ?_
        refine cr_goto X 66 dX9_blade_58 rfl ?_
        exact cr_iret X rfl rfl dX9_blade_66
      · refine cr_sipush X (157 : Int32) (by decide) dX9_blade_46 ?_
        refine cr_goto X 55 dX9_blade_49 rfl ?_
        refine cr_iload_n X 1 rfl dX9_blade_55 ?_
        refine cr_iadd X dX9_blade_56 ?_
        refine cr_iald X ((cr_m1 E).at (cr_row S0 9 G2_1 1) rfl) dX9_blade_57 ?_
        refine cr_goto X 66 dX9_blade_58 rfl ?_
        exact cr_iret X rfl rfl dX9_blade_66
  · refine cr_aload_n X 0 rfl dX9_blade_23 ?_
    refine cr_iconst X (1 : Int32) (by decide) dX9_blade_24 ?_
    refine cr_callV X (As := [.int ((1 : Int32))]) (rest := []) (c_X9_fails Γ.2.1 E hEK S0 G2_1 ((1 : Int32))) ((cr_m0 E).at (cr_row S0 9 G2_1 0) rfl) rfl 1 gX9_blade_X9_fails rfl rfl rfl (by decide +kernel) ⟨Nat.le_of_ble_eq_true rfl, Nat.le_of_ble_eq_true rfl⟩ (by decide) rfl rfl (Nat.le_of_ble_eq_true rfl) dX9_blade_25 (fun r25_5 => ?_)
    show cr_P Γ E 3 _ 0 0 (cr_us S0 9 r25_5.2) 28 ([(0, .ref (E.2.1 9 0)), (1, .int p1), (2, .int p2)]) ([.int r25_5.1]) _
    exact cr_iret X rfl rfl dX9_blade_28
theorem c_X9_blade_S (l : Launch) (E : cr_E) (hEK : cr_EK E) (S : cr_S) (p1 : Int32) (p2 : Int32) : cr_M l E yX9_blade wsX9_blade rm_X9_blade [.ref (E.2.1 9 0), .int p1, .int p2] S (cr_vIG S 9) (s_X9_blade  p1 p2 (S.1 9)) := by
  have h := c_X9_blade l E hEK S (S.1 9) p1 p2
  rw [cr_us_self] at h
  exact h
theorem k_X9_bog_1 : (Cond.fieldLink RX9 28 "CraneCampaignModel" "thrown" "I") ∈ wsX9_bog := List.mem_of_getElem? (i := 1) (by rfl)
theorem k_X9_bog_2 : (Cond.fieldLink RX9 7 "CraneCampaignModel" "z" "[I") ∈ wsX9_bog := List.mem_of_getElem? (i := 2) (by rfl)
theorem i_X9_bog_X9 : ∀ w ∈ wsX90, w ∈ wsX9_bog := by decide +kernel
abbrev rm_X9_bog : Room := { frames := 1, cells := 0, slots := 0, locals := 22 }
set_option maxHeartbeats 4000000 in
set_option maxRecDepth 100000 in
theorem c_X9_bog (l : Launch) (E : cr_E) (hEK : cr_EK E) (S0 : cr_S) (G : cr_G) (p1 : Int32) (p2 : Int32) : cr_M l E yX9_bog wsX9_bog rm_X9_bog [.ref (E.2.1 9 0), .int p1, .int p2] (cr_us S0 9 G) (cr_vIG S0 9) (s_X9_bog p1 p2 G) := by
  refine cr_enter (cc := cX9_bog) (nL := 3) (rt := (some .int)) hEK (by decide) rfl (Nat.le_of_ble_eq_true rfl) (fun Γ hΓ X => ?_)
  subst hΓ
  have X : cr_X Γ E cX9_bog 3 RX9 wsX9_bog rm_X9_bog (some .int) := X
  unfold s_X9_bog
  show cr_P Γ E 3 _ 0 0 (cr_us S0 9 G) 0 ([(0, .ref (E.2.1 9 0)), (1, .int p1), (2, .int p2)]) [] _
  refine cr_aload_n X 0 rfl dX9_bog_0 ?_
  refine cr_iconst X (0 : Int32) (by decide) dX9_bog_1 ?_
  refine cr_putG X (cr_m0 E) 7 rfl rfl rfl i_X9_bog_X9 tyX9 tyX9_ok nmX9 (by decide) k_X9_bog_1 rfl rfl rfl (Nat.le_of_ble_eq_true rfl) dX9_bog_2 (fun G2_1 => ?_)
  refine cr_iload_n X 1 rfl dX9_bog_5 ?_
  refine cr_iconst X (0 : Int32) (by decide) dX9_bog_6 ?_
  refine cr_aload_n X 0 rfl dX9_bog_7 ?_
  refine cr_get X ((cr_m0 E).at (cr_row S0 9 G2_1 0) rfl) rfl i_X9_bog_X9 0 (by decide) k_X9_bog_2 rfl dX9_bog_8 ?_
  refine cr_bipush X (127 : Int32) (by decide) dX9_bog_11 ?_
  refine cr_ialdk X 127 (by decide) (by decide) ((cr_m1 E).at (cr_row S0 9 G2_1 1) rfl) dX9_bog_13 ?_
  refine cr_iconst X (1 : Int32) (by decide) dX9_bog_14 ?_
  refine cr_isub X dX9_bog_15 ?_
  refine cr_callS X (As := [.int p1, .int ((0 : Int32)), .int ((((G2_1 1) 127) - (1 : Int32)))]) (rest := []) (c_X9_within Γ.2.1 E hEK ((cr_us S0 9 G2_1)) p1 ((0 : Int32)) ((((G2_1 1) 127) - (1 : Int32)))) 3 gX9_bog_X9_within rfl rfl rfl (by decide +kernel) ⟨Nat.le_of_ble_eq_true rfl, Nat.le_of_ble_eq_true rfl⟩ (by decide) rfl rfl (Nat.le_of_ble_eq_true rfl) dX9_bog_16 (fun r16_2 => ?_)
  show cr_P Γ E 3 _ 0 0 (cr_us S0 9 G2_1) 19 ([(0, .ref (E.2.1 9 0)), (1, .int p1), (2, .int p2)]) ([.int (cr_b r16_2)]) _
  refine cr_ifb_ne X 28 dX9_bog_19 rfl ?_ ?_
  · refine cr_iload_n X 2 rfl dX9_bog_28 ?_
    refine cr_iconst X (0 : Int32) (by decide) dX9_bog_29 ?_
    refine cr_iconst X (1 : Int32) (by decide) dX9_bog_30 ?_
    refine cr_callS X (As := [.int p2, .int ((0 : Int32)), .int ((1 : Int32))]) (rest := []) (c_X9_within Γ.2.1 E hEK ((cr_us S0 9 G2_1)) p2 ((0 : Int32)) ((1 : Int32))) 3 gX9_bog_X9_within rfl rfl rfl (by decide +kernel) ⟨Nat.le_of_ble_eq_true rfl, Nat.le_of_ble_eq_true rfl⟩ (by decide) rfl rfl (Nat.le_of_ble_eq_true rfl) dX9_bog_31 (fun r31_3 => ?_)
    show cr_P Γ E 3 _ 0 0 (cr_us S0 9 G2_1) 34 ([(0, .ref (E.2.1 9 0)), (1, .int p1), (2, .int p2)]) ([.int (cr_b r31_3)]) _
    refine cr_ifb_eq X 60 dX9_bog_34 rfl ?_ ?_
    · refine cr_aload_n X 0 rfl dX9_bog_60 ?_
      refine cr_iconst X (2 : Int32) (by decide) dX9_bog_61 ?_
      refine cr_callV X (As := [.int ((2 : Int32))]) (rest := []) (c_X9_fails Γ.2.1 E hEK S0 G2_1 ((2 : Int32))) ((cr_m0 E).at (cr_row S0 9 G2_1 0) rfl) rfl 1 gX9_bog_X9_fails rfl rfl rfl (by decide +kernel) ⟨Nat.le_of_ble_eq_true rfl, Nat.le_of_ble_eq_true rfl⟩ (by decide) rfl rfl (Nat.le_of_ble_eq_true rfl) dX9_bog_62 (fun r62_4 => ?_)
      show cr_P Γ E 3 _ 0 0 (cr_us S0 9 r62_4.2) 65 ([(0, .ref (E.2.1 9 0)), (1, .int p1), (2, .int p2)]) ([.int r62_4.1]) _
      exact cr_iret X rfl rfl dX9_bog_65
    · refine cr_aload_n X 0 rfl dX9_bog_37 ?_
      refine cr_get X ((cr_m0 E).at (cr_row S0 9 G2_1 0) rfl) rfl i_X9_bog_X9 0 (by decide) k_X9_bog_2 rfl dX9_bog_38 ?_
      refine cr_iload_n X 2 rfl dX9_bog_41 ?_
      refine cr_if_ne X 51 dX9_bog_42 rfl ?_ ?_
      · refine cr_sipush X (134 : Int32) (by decide) dX9_bog_51 ?_
        refine cr_iload_n X 1 rfl dX9_bog_54 ?_
        refine cr_iadd X dX9_bog_55 ?_
        refine cr_iald X ((cr_m1 E).at (cr_row S0 9 G2_1 1) rfl) dX9_bog_56 ?_
        refine cr_goto X 65 dX9_bog_57 rfl ?_
        exact cr_iret X rfl rfl dX9_bog_65
      · refine cr_sipush X (128 : Int32) (by decide) dX9_bog_45 ?_
        refine cr_goto X 54 dX9_bog_48 rfl ?_
        refine cr_iload_n X 1 rfl dX9_bog_54 ?_
        refine cr_iadd X dX9_bog_55 ?_
        refine cr_iald X ((cr_m1 E).at (cr_row S0 9 G2_1 1) rfl) dX9_bog_56 ?_
        refine cr_goto X 65 dX9_bog_57 rfl ?_
        exact cr_iret X rfl rfl dX9_bog_65
  · refine cr_aload_n X 0 rfl dX9_bog_22 ?_
    refine cr_iconst X (1 : Int32) (by decide) dX9_bog_23 ?_
    refine cr_callV X (As := [.int ((1 : Int32))]) (rest := []) (c_X9_fails Γ.2.1 E hEK S0 G2_1 ((1 : Int32))) ((cr_m0 E).at (cr_row S0 9 G2_1 0) rfl) rfl 1 gX9_bog_X9_fails rfl rfl rfl (by decide +kernel) ⟨Nat.le_of_ble_eq_true rfl, Nat.le_of_ble_eq_true rfl⟩ (by decide) rfl rfl (Nat.le_of_ble_eq_true rfl) dX9_bog_24 (fun r24_5 => ?_)
    show cr_P Γ E 3 _ 0 0 (cr_us S0 9 r24_5.2) 27 ([(0, .ref (E.2.1 9 0)), (1, .int p1), (2, .int p2)]) ([.int r24_5.1]) _
    exact cr_iret X rfl rfl dX9_bog_27
theorem c_X9_bog_S (l : Launch) (E : cr_E) (hEK : cr_EK E) (S : cr_S) (p1 : Int32) (p2 : Int32) : cr_M l E yX9_bog wsX9_bog rm_X9_bog [.ref (E.2.1 9 0), .int p1, .int p2] S (cr_vIG S 9) (s_X9_bog  p1 p2 (S.1 9)) := by
  have h := c_X9_bog l E hEK S (S.1 9) p1 p2
  rw [cr_us_self] at h
  exact h
theorem k_X9_claims_1 : (Cond.fieldLink RX9 28 "CraneCampaignModel" "thrown" "I") ∈ wsX9_claims := List.mem_of_getElem? (i := 1) (by rfl)
theorem k_X9_claims_2 : (Cond.fieldLink RX9 7 "CraneCampaignModel" "z" "[I") ∈ wsX9_claims := List.mem_of_getElem? (i := 2) (by rfl)
theorem i_X9_claims_X9 : ∀ w ∈ wsX90, w ∈ wsX9_claims := by decide +kernel
abbrev rm_X9_claims : Room := { frames := 1, cells := 0, slots := 0, locals := 22 }
set_option maxHeartbeats 4000000 in
set_option maxRecDepth 100000 in
theorem c_X9_claims (l : Launch) (E : cr_E) (hEK : cr_EK E) (S0 : cr_S) (G : cr_G) (p1 : Int32) : cr_M l E yX9_claims wsX9_claims rm_X9_claims [.ref (E.2.1 9 0), .int p1] (cr_us S0 9 G) (cr_vIG S0 9) (s_X9_claims p1 G) := by
  refine cr_enter (cc := cX9_claims) (nL := 2) (rt := (some .int)) hEK (by decide) rfl (Nat.le_of_ble_eq_true rfl) (fun Γ hΓ X => ?_)
  subst hΓ
  have X : cr_X Γ E cX9_claims 2 RX9 wsX9_claims rm_X9_claims (some .int) := X
  unfold s_X9_claims
  show cr_P Γ E 2 _ 0 0 (cr_us S0 9 G) 0 ([(0, .ref (E.2.1 9 0)), (1, .int p1)]) [] _
  refine cr_aload_n X 0 rfl dX9_claims_0 ?_
  refine cr_iconst X (0 : Int32) (by decide) dX9_claims_1 ?_
  refine cr_putG X (cr_m0 E) 7 rfl rfl rfl i_X9_claims_X9 tyX9 tyX9_ok nmX9 (by decide) k_X9_claims_1 rfl rfl rfl (Nat.le_of_ble_eq_true rfl) dX9_claims_2 (fun G2_1 => ?_)
  refine cr_iload_n X 1 rfl dX9_claims_5 ?_
  refine cr_iconst X (0 : Int32) (by decide) dX9_claims_6 ?_
  refine cr_iconst X (4 : Int32) (by decide) dX9_claims_7 ?_
  refine cr_callS X (As := [.int p1, .int ((0 : Int32)), .int ((4 : Int32))]) (rest := []) (c_X9_within Γ.2.1 E hEK ((cr_us S0 9 G2_1)) p1 ((0 : Int32)) ((4 : Int32))) 3 gX9_claims_X9_within rfl rfl rfl (by decide +kernel) ⟨Nat.le_of_ble_eq_true rfl, Nat.le_of_ble_eq_true rfl⟩ (by decide) rfl rfl (Nat.le_of_ble_eq_true rfl) dX9_claims_8 (fun r8_2 => ?_)
  show cr_P Γ E 2 _ 0 0 (cr_us S0 9 G2_1) 11 ([(0, .ref (E.2.1 9 0)), (1, .int p1)]) ([.int (cr_b r8_2)]) _
  refine cr_ifb_eq X 27 dX9_claims_11 rfl ?_ ?_
  · refine cr_aload_n X 0 rfl dX9_claims_27 ?_
    refine cr_iconst X (1 : Int32) (by decide) dX9_claims_28 ?_
    refine cr_callV X (As := [.int ((1 : Int32))]) (rest := []) (c_X9_fails Γ.2.1 E hEK S0 G2_1 ((1 : Int32))) ((cr_m0 E).at (cr_row S0 9 G2_1 0) rfl) rfl 1 gX9_claims_X9_fails rfl rfl rfl (by decide +kernel) ⟨Nat.le_of_ble_eq_true rfl, Nat.le_of_ble_eq_true rfl⟩ (by decide) rfl rfl (Nat.le_of_ble_eq_true rfl) dX9_claims_29 (fun r29_3 => ?_)
    show cr_P Γ E 2 _ 0 0 (cr_us S0 9 r29_3.2) 32 ([(0, .ref (E.2.1 9 0)), (1, .int p1)]) ([.int r29_3.1]) _
    exact cr_iret X rfl rfl dX9_claims_32
  · refine cr_aload_n X 0 rfl dX9_claims_14 ?_
    refine cr_get X ((cr_m0 E).at (cr_row S0 9 G2_1 0) rfl) rfl i_X9_claims_X9 0 (by decide) k_X9_claims_2 rfl dX9_claims_15 ?_
    refine cr_sipush X (177 : Int32) (by decide) dX9_claims_18 ?_
    refine cr_iload_n X 1 rfl dX9_claims_21 ?_
    refine cr_iadd X dX9_claims_22 ?_
    refine cr_iald X ((cr_m1 E).at (cr_row S0 9 G2_1 1) rfl) dX9_claims_23 ?_
    refine cr_goto X 32 dX9_claims_24 rfl ?_
    exact cr_iret X rfl rfl dX9_claims_32
theorem c_X9_claims_S (l : Launch) (E : cr_E) (hEK : cr_EK E) (S : cr_S) (p1 : Int32) : cr_M l E yX9_claims wsX9_claims rm_X9_claims [.ref (E.2.1 9 0), .int p1] S (cr_vIG S 9) (s_X9_claims  p1 (S.1 9)) := by
  have h := c_X9_claims l E hEK S (S.1 9) p1
  rw [cr_us_self] at h
  exact h
theorem k_X9_clearBuffer_1 : (Cond.fieldLink RX9 28 "CraneCampaignModel" "thrown" "I") ∈ wsX9_clearBuffer := List.mem_of_getElem? (i := 1) (by rfl)
theorem k_X9_clearBuffer_2 : (Cond.fieldLink RX9 98 "CraneCampaignModel" "length" "I") ∈ wsX9_clearBuffer := List.mem_of_getElem? (i := 2) (by rfl)
theorem i_X9_clearBuffer_X9 : ∀ w ∈ wsX90, w ∈ wsX9_clearBuffer := by decide +kernel
abbrev rm_X9_clearBuffer : Room := { frames := 0, cells := 0, slots := 0, locals := 0 }
set_option maxHeartbeats 4000000 in
set_option maxRecDepth 100000 in
theorem c_X9_clearBuffer (l : Launch) (E : cr_E) (hEK : cr_EK E) (S0 : cr_S) (G : cr_G) : cr_M l E yX9_clearBuffer wsX9_clearBuffer rm_X9_clearBuffer [.ref (E.2.1 9 0)] (cr_us S0 9 G) (cr_vIG S0 9) (s_X9_clearBuffer G) := by
  refine cr_enter (cc := cX9_clearBuffer) (nL := 2) (rt := (some .int)) hEK (by decide) rfl (Nat.le_of_ble_eq_true rfl) (fun Γ hΓ X => ?_)
  subst hΓ
  have X : cr_X Γ E cX9_clearBuffer 2 RX9 wsX9_clearBuffer rm_X9_clearBuffer (some .int) := X
  unfold s_X9_clearBuffer
  show cr_P Γ E 2 _ 0 0 (cr_us S0 9 G) 0 ([(0, .ref (E.2.1 9 0))]) [] _
  refine cr_aload_n X 0 rfl dX9_clearBuffer_0 ?_
  refine cr_iconst X (0 : Int32) (by decide) dX9_clearBuffer_1 ?_
  refine cr_putG X (cr_m0 E) 7 rfl rfl rfl i_X9_clearBuffer_X9 tyX9 tyX9_ok nmX9 (by decide) k_X9_clearBuffer_1 rfl rfl rfl (Nat.le_of_ble_eq_true rfl) dX9_clearBuffer_2 (fun G2_1 => ?_)
  refine cr_aload_n X 0 rfl dX9_clearBuffer_5 ?_
  refine cr_get X ((cr_m0 E).at (cr_row S0 9 G2_1 0) rfl) rfl i_X9_clearBuffer_X9 6 (by decide) k_X9_clearBuffer_2 rfl dX9_clearBuffer_6 ?_
  refine cr_istore_nb X (fun v9_2 => [(1, .int v9_2), (0, .ref (E.2.1 9 0))]) (fun _ => rfl) (by decide) dX9_clearBuffer_9 (fun v9_2 => ?_)
  refine cr_aload_n X 1 rfl dX9_clearBuffer_10 ?_
  refine cr_iconst X (0 : Int32) (by decide) dX9_clearBuffer_11 ?_
  refine cr_putG X (cr_m0 E) 6 rfl rfl rfl i_X9_clearBuffer_X9 tyX9 tyX9_ok nmX9 (by decide) k_X9_clearBuffer_2 rfl rfl rfl (Nat.le_of_ble_eq_true rfl) dX9_clearBuffer_12 (fun G12_3 => ?_)
  refine cr_iload_n X 0 rfl dX9_clearBuffer_15 ?_
  exact cr_iret X rfl rfl dX9_clearBuffer_16
theorem c_X9_clearBuffer_S (l : Launch) (E : cr_E) (hEK : cr_EK E) (S : cr_S) : cr_M l E yX9_clearBuffer wsX9_clearBuffer rm_X9_clearBuffer [.ref (E.2.1 9 0)] S (cr_vIG S 9) (s_X9_clearBuffer   (S.1 9)) := by
  have h := c_X9_clearBuffer l E hEK S (S.1 9)
  rw [cr_us_self] at h
  exact h
theorem k_X9_close_1 : (Cond.fieldLink RX9 101 "CraneCampaignModel" "times" "I") ∈ wsX9_close := List.mem_of_getElem? (i := 1) (by rfl)
theorem k_X9_close_2 : (Cond.fieldLink RX9 104 "CraneCampaignModel" "all" "I") ∈ wsX9_close := List.mem_of_getElem? (i := 2) (by rfl)
theorem k_X9_close_3 : (Cond.fieldLink RX9 25 "CraneCampaignModel" "read" "[I") ∈ wsX9_close := List.mem_of_getElem? (i := 3) (by rfl)
theorem k_X9_close_4 : (Cond.fieldLink RX9 107 "CraneCampaignModel" "number" "I") ∈ wsX9_close := List.mem_of_getElem? (i := 4) (by rfl)
theorem i_X9_close_X9 : ∀ w ∈ wsX90, w ∈ wsX9_close := by decide +kernel
abbrev rm_X9_close : Room := { frames := 0, cells := 0, slots := 0, locals := 0 }
set_option maxHeartbeats 4000000 in
set_option maxRecDepth 100000 in
theorem b_X9_close_2 {Γ : cr_C} {E : cr_E} (X : cr_X Γ E cX9_close 2 RX9 wsX9_close rm_X9_close none) (S0 : cr_S) : ∀ (n : Nat) (x1 : Int32) (G : cr_G), cr_P Γ E 2 (cr_F Γ E (cr_vVG S0 9)) 0 0 (cr_us S0 9 G) 2 ([(0, .ref (E.2.1 9 0)), (1, .int x1)]) ([]) (s_X9_close_2 n x1 G) := by
  have hEK := X.2.2.2.2.2.2.1
  intro n
  induction n with
  | zero => intro x1 G; exact cr_none
  | succ n ih =>
    intro x1 G
    rw [s_X9_close_2]
    refine cr_iload_n X 1 rfl dX9_close_2 ?_
    refine cr_aload_n X 0 rfl dX9_close_3 ?_
    refine cr_get X ((cr_m0 E).at (cr_row S0 9 G 0) rfl) rfl i_X9_close_X9 11 (by decide) k_X9_close_1 rfl dX9_close_4 ?_
    refine cr_icmp_ge X 48 dX9_close_7 rfl ?_ ?_
    · exact cr_vret X rfl rfl dX9_close_48
    · refine cr_aload_n X 0 rfl dX9_close_10 ?_
      refine cr_get X ((cr_m0 E).at (cr_row S0 9 G 0) rfl) rfl i_X9_close_X9 12 (by decide) k_X9_close_2 rfl dX9_close_11 ?_
      refine cr_bipush X (48 : Int32) (by decide) dX9_close_14 ?_
      refine cr_icmp_ge X 32 dX9_close_16 rfl ?_ ?_
      · refine cr_aload_n X 0 rfl dX9_close_32 ?_
        refine cr_dup X rfl dX9_close_33 ?_
        refine cr_get X ((cr_m0 E).at (cr_row S0 9 G 0) rfl) rfl i_X9_close_X9 12 (by decide) k_X9_close_2 rfl dX9_close_34 ?_
        refine cr_iconst X (1 : Int32) (by decide) dX9_close_37 ?_
        refine cr_iadd X dX9_close_38 ?_
        refine cr_putG X (cr_m0 E) 12 rfl rfl rfl i_X9_close_X9 tyX9 tyX9_ok nmX9 (by decide) k_X9_close_2 rfl rfl rfl (Nat.le_of_ble_eq_true rfl) dX9_close_39 (fun G39_1 => ?_)
        refine cr_iinc X (x1 + 1) (fun v42_2 => [(1, .int v42_2), (0, .ref (E.2.1 9 0))]) 1 rfl rfl (fun _ => rfl) (by decide) dX9_close_42 (fun v42_2 => ?_)
        refine cr_goto X 2 dX9_close_45 rfl ?_
        refine cr_sub (lv' := [(0, .ref (E.2.1 9 0)), (1, .int v42_2)]) [1, 0] rfl ?_
        exact ih v42_2 G39_1
      · refine cr_aload_n X 0 rfl dX9_close_19 ?_
        refine cr_get X ((cr_m0 E).at (cr_row S0 9 G 0) rfl) rfl i_X9_close_X9 14 (by decide) k_X9_close_3 rfl dX9_close_20 ?_
        refine cr_aload_n X 0 rfl dX9_close_23 ?_
        refine cr_get X ((cr_m0 E).at (cr_row S0 9 G 0) rfl) rfl i_X9_close_X9 12 (by decide) k_X9_close_2 rfl dX9_close_24 ?_
        refine cr_aload_n X 0 rfl dX9_close_27 ?_
        refine cr_get X ((cr_m0 E).at (cr_row S0 9 G 0) rfl) rfl i_X9_close_X9 10 (by decide) k_X9_close_4 rfl dX9_close_28 ?_
        refine cr_iastG X (cr_m6 E) (fun _ _ => rfl) dX9_close_31 (fun G31_3 => ?_)
        refine cr_aload_n X 0 rfl dX9_close_32 ?_
        refine cr_dup X rfl dX9_close_33 ?_
        refine cr_get X ((cr_m0 E).at (cr_row S0 9 G31_3 0) rfl) rfl i_X9_close_X9 12 (by decide) k_X9_close_2 rfl dX9_close_34 ?_
        refine cr_iconst X (1 : Int32) (by decide) dX9_close_37 ?_
        refine cr_iadd X dX9_close_38 ?_
        refine cr_putG X (cr_m0 E) 12 rfl rfl rfl i_X9_close_X9 tyX9 tyX9_ok nmX9 (by decide) k_X9_close_2 rfl rfl rfl (Nat.le_of_ble_eq_true rfl) dX9_close_39 (fun G39_4 => ?_)
        refine cr_iinc X (x1 + 1) (fun v42_5 => [(1, .int v42_5), (0, .ref (E.2.1 9 0))]) 1 rfl rfl (fun _ => rfl) (by decide) dX9_close_42 (fun v42_5 => ?_)
        refine cr_goto X 2 dX9_close_45 rfl ?_
        refine cr_sub (lv' := [(0, .ref (E.2.1 9 0)), (1, .int v42_5)]) [1, 0] rfl ?_
        exact ih v42_5 G39_4
set_option maxHeartbeats 4000000 in
set_option maxRecDepth 100000 in
theorem c_X9_close (l : Launch) (E : cr_E) (hEK : cr_EK E) (S0 : cr_S) (G : cr_G) : cr_M l E yX9_close wsX9_close rm_X9_close [.ref (E.2.1 9 0)] (cr_us S0 9 G) (cr_vVG S0 9) (s_X9_close G) := by
  refine cr_enter (cc := cX9_close) (nL := 2) (rt := none) hEK (by decide) rfl (Nat.le_of_ble_eq_true rfl) (fun Γ hΓ X => ?_)
  subst hΓ
  have X : cr_X Γ E cX9_close 2 RX9 wsX9_close rm_X9_close none := X
  unfold s_X9_close
  show cr_P Γ E 2 _ 0 0 (cr_us S0 9 G) 0 ([(0, .ref (E.2.1 9 0))]) [] _
  refine cr_iconst X (0 : Int32) (by decide) dX9_close_0 ?_
  refine cr_istore_n X ([(1, .int ((0 : Int32))), (0, .ref (E.2.1 9 0))]) rfl (by decide) dX9_close_1 ?_
  refine cr_sub (lv' := [(0, .ref (E.2.1 9 0)), (1, .int ((0 : Int32)))]) [1, 0] rfl ?_
  exact b_X9_close_2 X S0 1200 ((0 : Int32)) G
theorem c_X9_close_S (l : Launch) (E : cr_E) (hEK : cr_EK E) (S : cr_S) : cr_M l E yX9_close wsX9_close rm_X9_close [.ref (E.2.1 9 0)] S (cr_vVG S 9) (s_X9_close   (S.1 9)) := by
  have h := c_X9_close l E hEK S (S.1 9)
  rw [cr_us_self] at h
  exact h
theorem k_X9_counted_1 : (Cond.fieldLink RX9 7 "CraneCampaignModel" "z" "[I") ∈ wsX9_counted := List.mem_of_getElem? (i := 1) (by rfl)
theorem k_X9_counted_2 : (Cond.fieldLink RX9 36 "CraneCampaignModel" "saved" "I") ∈ wsX9_counted := List.mem_of_getElem? (i := 2) (by rfl)
theorem i_X9_counted_X9 : ∀ w ∈ wsX90, w ∈ wsX9_counted := by decide +kernel
abbrev rm_X9_counted : Room := { frames := 1, cells := 0, slots := 0, locals := 23 }
set_option maxHeartbeats 4000000 in
set_option maxRecDepth 100000 in
theorem c_X9_counted (l : Launch) (E : cr_E) (hEK : cr_EK E) (S0 : cr_S) (G : cr_G) (p1 : Int32) : cr_M l E yX9_counted wsX9_counted rm_X9_counted [.ref (E.2.1 9 0), .int p1] (cr_us S0 9 G) (cr_vI (cr_us S0 9 G)) (s_X9_counted G p1) := by
  refine cr_enter (cc := cX9_counted) (nL := 2) (rt := (some .int)) hEK (by decide) rfl (Nat.le_of_ble_eq_true rfl) (fun Γ hΓ X => ?_)
  subst hΓ
  have X : cr_X Γ E cX9_counted 2 RX9 wsX9_counted rm_X9_counted (some .int) := X
  unfold s_X9_counted
  show cr_P Γ E 2 _ 0 0 (cr_us S0 9 G) 0 ([(0, .ref (E.2.1 9 0)), (1, .int p1)]) [] _
  refine cr_iload_n X 1 rfl dX9_counted_0 ?_
  refine cr_ite (fun h1_0 => ?_) (fun n1_0 => ?_)
  · refine cr_tin X 0 72 h1_0 dX9_counted_1 (by decide) rfl rfl ?_
    refine cr_aload_n X 0 rfl dX9_counted_72 ?_
    refine cr_get X ((cr_m0 E).at (cr_row S0 9 G 0) rfl) rfl i_X9_counted_X9 0 (by decide) k_X9_counted_1 rfl dX9_counted_73 ?_
    refine cr_bipush X (70 : Int32) (by decide) dX9_counted_76 ?_
    refine cr_ialdk X 70 (by decide) (by decide) ((cr_m1 E).at (cr_row S0 9 G 1) rfl) dX9_counted_78 ?_
    exact cr_iret X rfl rfl dX9_counted_79
  · refine cr_ite (fun h1_1 => ?_) (fun n1_1 => ?_)
    · refine cr_tin X 1 80 h1_1 dX9_counted_1 (by decide) rfl rfl ?_
      refine cr_aload_n X 0 rfl dX9_counted_80 ?_
      refine cr_callV X (As := []) (rest := []) (c_X9_faulty Γ.2.1 E hEK S0 G) ((cr_m0 E).at (cr_row S0 9 G 0) rfl) rfl 0 gX9_counted_X9_faulty rfl rfl rfl (by decide +kernel) ⟨Nat.le_of_ble_eq_true rfl, Nat.le_of_ble_eq_true rfl⟩ (by decide) rfl rfl (Nat.le_of_ble_eq_true rfl) dX9_counted_81 (fun r81_1 => ?_)
      show cr_P Γ E 2 _ 0 0 (cr_us S0 9 G) 84 ([(0, .ref (E.2.1 9 0)), (1, .int p1)]) ([.int r81_1]) _
      exact cr_iret X rfl rfl dX9_counted_84
    · refine cr_ite (fun h1_2 => ?_) (fun n1_2 => ?_)
      · refine cr_tin X 2 85 h1_2 dX9_counted_1 (by decide) rfl rfl ?_
        refine cr_aload_n X 0 rfl dX9_counted_85 ?_
        refine cr_get X ((cr_m0 E).at (cr_row S0 9 G 0) rfl) rfl i_X9_counted_X9 0 (by decide) k_X9_counted_1 rfl dX9_counted_86 ?_
        refine cr_sipush X (182 : Int32) (by decide) dX9_counted_89 ?_
        refine cr_ialdk X 182 (by decide) (by decide) ((cr_m1 E).at (cr_row S0 9 G 1) rfl) dX9_counted_92 ?_
        exact cr_iret X rfl rfl dX9_counted_93
      · refine cr_ite (fun h1_3 => ?_) (fun n1_3 => ?_)
        · refine cr_tin X 3 94 h1_3 dX9_counted_1 (by decide) rfl rfl ?_
          refine cr_aload_n X 0 rfl dX9_counted_94 ?_
          refine cr_aload_n X 0 rfl dX9_counted_95 ?_
          refine cr_get X ((cr_m0 E).at (cr_row S0 9 G 0) rfl) rfl i_X9_counted_X9 0 (by decide) k_X9_counted_1 rfl dX9_counted_96 ?_
          refine cr_sipush X (182 : Int32) (by decide) dX9_counted_99 ?_
          refine cr_ialdk X 182 (by decide) (by decide) ((cr_m1 E).at (cr_row S0 9 G 1) rfl) dX9_counted_102 ?_
          refine cr_callV X (As := [.int (((G 1) 182))]) (rest := []) (c_X9_windAt Γ.2.1 E hEK S0 G (((G 1) 182))) ((cr_m0 E).at (cr_row S0 9 G 0) rfl) rfl 1 gX9_counted_X9_windAt rfl rfl rfl (by decide +kernel) ⟨Nat.le_of_ble_eq_true rfl, Nat.le_of_ble_eq_true rfl⟩ (by decide) rfl rfl (Nat.le_of_ble_eq_true rfl) dX9_counted_103 (fun r103_2 => ?_)
          show cr_P Γ E 2 _ 0 0 (cr_us S0 9 G) 106 ([(0, .ref (E.2.1 9 0)), (1, .int p1)]) ([.int r103_2]) _
          exact cr_iret X rfl rfl dX9_counted_106
        · refine cr_ite (fun h1_4 => ?_) (fun n1_4 => ?_)
          · refine cr_tin X 4 107 h1_4 dX9_counted_1 (by decide) rfl rfl ?_
            refine cr_aload_n X 0 rfl dX9_counted_107 ?_
            refine cr_get X ((cr_m0 E).at (cr_row S0 9 G 0) rfl) rfl i_X9_counted_X9 0 (by decide) k_X9_counted_1 rfl dX9_counted_108 ?_
            refine cr_bipush X (78 : Int32) (by decide) dX9_counted_111 ?_
            refine cr_ialdk X 78 (by decide) (by decide) ((cr_m1 E).at (cr_row S0 9 G 1) rfl) dX9_counted_113 ?_
            exact cr_iret X rfl rfl dX9_counted_114
          · refine cr_ite (fun h1_5 => ?_) (fun n1_5 => ?_)
            · refine cr_tin X 5 115 h1_5 dX9_counted_1 (by decide) rfl rfl ?_
              refine cr_aload_n X 0 rfl dX9_counted_115 ?_
              refine cr_get X ((cr_m0 E).at (cr_row S0 9 G 0) rfl) rfl i_X9_counted_X9 0 (by decide) k_X9_counted_1 rfl dX9_counted_116 ?_
              refine cr_sipush X (145 : Int32) (by decide) dX9_counted_119 ?_
              refine cr_ialdk X 145 (by decide) (by decide) ((cr_m1 E).at (cr_row S0 9 G 1) rfl) dX9_counted_122 ?_
              exact cr_iret X rfl rfl dX9_counted_123
            · refine cr_ite (fun h1_6 => ?_) (fun n1_6 => ?_)
              · refine cr_tin X 6 124 h1_6 dX9_counted_1 (by decide) rfl rfl ?_
                refine cr_aload_n X 0 rfl dX9_counted_124 ?_
                refine cr_get X ((cr_m0 E).at (cr_row S0 9 G 0) rfl) rfl i_X9_counted_X9 0 (by decide) k_X9_counted_1 rfl dX9_counted_125 ?_
                refine cr_sipush X (145 : Int32) (by decide) dX9_counted_128 ?_
                refine cr_ialdk X 145 (by decide) (by decide) ((cr_m1 E).at (cr_row S0 9 G 1) rfl) dX9_counted_131 ?_
                refine cr_if_ne X 139 dX9_counted_132 rfl ?_ ?_
                · refine cr_aload_n X 0 rfl dX9_counted_139 ?_
                  refine cr_get X ((cr_m0 E).at (cr_row S0 9 G 0) rfl) rfl i_X9_counted_X9 0 (by decide) k_X9_counted_1 rfl dX9_counted_140 ?_
                  refine cr_sipush X (146 : Int32) (by decide) dX9_counted_143 ?_
                  refine cr_ialdk X 146 (by decide) (by decide) ((cr_m1 E).at (cr_row S0 9 G 1) rfl) dX9_counted_146 ?_
                  exact cr_iret X rfl rfl dX9_counted_147
                · refine cr_iconst X (-1 : Int32) (by decide) dX9_counted_135 ?_
                  refine cr_goto X 147 dX9_counted_136 rfl ?_
                  exact cr_iret X rfl rfl dX9_counted_147
              · refine cr_ite (fun h1_7 => ?_) (fun n1_7 => ?_)
                · refine cr_tin X 7 148 h1_7 dX9_counted_1 (by decide) rfl rfl ?_
                  refine cr_aload_n X 0 rfl dX9_counted_148 ?_
                  refine cr_get X ((cr_m0 E).at (cr_row S0 9 G 0) rfl) rfl i_X9_counted_X9 0 (by decide) k_X9_counted_1 rfl dX9_counted_149 ?_
                  refine cr_sipush X (140 : Int32) (by decide) dX9_counted_152 ?_
                  refine cr_ialdk X 140 (by decide) (by decide) ((cr_m1 E).at (cr_row S0 9 G 1) rfl) dX9_counted_155 ?_
                  exact cr_iret X rfl rfl dX9_counted_156
                · refine cr_ite (fun h1_8 => ?_) (fun n1_8 => ?_)
                  · refine cr_tin X 8 157 h1_8 dX9_counted_1 (by decide) rfl rfl ?_
                    refine cr_aload_n X 0 rfl dX9_counted_157 ?_
                    refine cr_get X ((cr_m0 E).at (cr_row S0 9 G 0) rfl) rfl i_X9_counted_X9 0 (by decide) k_X9_counted_1 rfl dX9_counted_158 ?_
                    refine cr_sipush X (141 : Int32) (by decide) dX9_counted_161 ?_
                    refine cr_ialdk X 141 (by decide) (by decide) ((cr_m1 E).at (cr_row S0 9 G 1) rfl) dX9_counted_164 ?_
                    refine cr_iconst X (-1 : Int32) (by decide) dX9_counted_165 ?_
                    refine cr_icmp_ne X 173 dX9_counted_166 rfl ?_ ?_
                    · refine cr_aload_n X 0 rfl dX9_counted_173 ?_
                      refine cr_get X ((cr_m0 E).at (cr_row S0 9 G 0) rfl) rfl i_X9_counted_X9 0 (by decide) k_X9_counted_1 rfl dX9_counted_174 ?_
                      refine cr_sipush X (142 : Int32) (by decide) dX9_counted_177 ?_
                      refine cr_ialdk X 142 (by decide) (by decide) ((cr_m1 E).at (cr_row S0 9 G 1) rfl) dX9_counted_180 ?_
                      exact cr_iret X rfl rfl dX9_counted_181
                    · refine cr_iconst X (0 : Int32) (by decide) dX9_counted_169 ?_
                      refine cr_goto X 181 dX9_counted_170 rfl ?_
                      exact cr_iret X rfl rfl dX9_counted_181
                  · refine cr_ite (fun h1_9 => ?_) (fun n1_9 => ?_)
                    · refine cr_tin X 9 182 h1_9 dX9_counted_1 (by decide) rfl rfl ?_
                      refine cr_aload_n X 0 rfl dX9_counted_182 ?_
                      refine cr_get X ((cr_m0 E).at (cr_row S0 9 G 0) rfl) rfl i_X9_counted_X9 0 (by decide) k_X9_counted_1 rfl dX9_counted_183 ?_
                      refine cr_sipush X (141 : Int32) (by decide) dX9_counted_186 ?_
                      refine cr_ialdk X 141 (by decide) (by decide) ((cr_m1 E).at (cr_row S0 9 G 1) rfl) dX9_counted_189 ?_
                      exact cr_iret X rfl rfl dX9_counted_190
                    · refine cr_ite (fun h1_10 => ?_) (fun n1_10 => ?_)
                      · refine cr_tin X 10 191 h1_10 dX9_counted_1 (by decide) rfl rfl ?_
                        refine cr_aload_n X 0 rfl dX9_counted_191 ?_
                        refine cr_get X ((cr_m0 E).at (cr_row S0 9 G 0) rfl) rfl i_X9_counted_X9 0 (by decide) k_X9_counted_1 rfl dX9_counted_192 ?_
                        refine cr_sipush X (145 : Int32) (by decide) dX9_counted_195 ?_
                        refine cr_ialdk X 145 (by decide) (by decide) ((cr_m1 E).at (cr_row S0 9 G 1) rfl) dX9_counted_198 ?_
                        refine cr_if_le X 232 dX9_counted_199 rfl ?_ ?_
                        · refine cr_iconst X (0 : Int32) (by decide) dX9_counted_232 ?_
                          exact cr_iret X rfl rfl dX9_counted_233
                        · refine cr_aload_n X 0 rfl dX9_counted_202 ?_
                          refine cr_get X ((cr_m0 E).at (cr_row S0 9 G 0) rfl) rfl i_X9_counted_X9 0 (by decide) k_X9_counted_1 rfl dX9_counted_203 ?_
                          refine cr_sipush X (146 : Int32) (by decide) dX9_counted_206 ?_
                          refine cr_ialdk X 146 (by decide) (by decide) ((cr_m1 E).at (cr_row S0 9 G 1) rfl) dX9_counted_209 ?_
                          refine cr_aload_n X 0 rfl dX9_counted_210 ?_
                          refine cr_get X ((cr_m0 E).at (cr_row S0 9 G 0) rfl) rfl i_X9_counted_X9 0 (by decide) k_X9_counted_1 rfl dX9_counted_211 ?_
                          refine cr_sipush X (144 : Int32) (by decide) dX9_counted_214 ?_
                          refine cr_ialdk X 144 (by decide) (by decide) ((cr_m1 E).at (cr_row S0 9 G 1) rfl) dX9_counted_217 ?_
                          refine cr_icmp_ne X 232 dX9_counted_218 rfl ?_ ?_
                          · refine cr_iconst X (0 : Int32) (by decide) dX9_counted_232 ?_
                            exact cr_iret X rfl rfl dX9_counted_233
                          · refine cr_aload_n X 0 rfl dX9_counted_221 ?_
                            refine cr_get X ((cr_m0 E).at (cr_row S0 9 G 0) rfl) rfl i_X9_counted_X9 0 (by decide) k_X9_counted_1 rfl dX9_counted_222 ?_
                            refine cr_sipush X (143 : Int32) (by decide) dX9_counted_225 ?_
                            refine cr_ialdk X 143 (by decide) (by decide) ((cr_m1 E).at (cr_row S0 9 G 1) rfl) dX9_counted_228 ?_
                            refine cr_goto X 233 dX9_counted_229 rfl ?_
                            exact cr_iret X rfl rfl dX9_counted_233
                      · refine cr_ite (fun h1_11 => ?_) (fun n1_11 => ?_)
                        · refine cr_tin X 11 234 h1_11 dX9_counted_1 (by decide) rfl rfl ?_
                          refine cr_aload_n X 0 rfl dX9_counted_234 ?_
                          refine cr_bipush X (50 : Int32) (by decide) dX9_counted_235 ?_
                          refine cr_callV X (As := [.int ((50 : Int32))]) (rest := []) (c_X9_sum Γ.2.1 E hEK S0 G ((50 : Int32))) ((cr_m0 E).at (cr_row S0 9 G 0) rfl) rfl 1 gX9_counted_X9_sum rfl rfl rfl (by decide +kernel) ⟨Nat.le_of_ble_eq_true rfl, Nat.le_of_ble_eq_true rfl⟩ (by decide) rfl rfl (Nat.le_of_ble_eq_true rfl) dX9_counted_237 (fun r237_3 => ?_)
                          show cr_P Γ E 2 _ 0 0 (cr_us S0 9 G) 240 ([(0, .ref (E.2.1 9 0)), (1, .int p1)]) ([.int r237_3]) _
                          exact cr_iret X rfl rfl dX9_counted_240
                        · refine cr_ite (fun h1_12 => ?_) (fun n1_12 => ?_)
                          · refine cr_tin X 12 241 h1_12 dX9_counted_1 (by decide) rfl rfl ?_
                            refine cr_aload_n X 0 rfl dX9_counted_241 ?_
                            refine cr_bipush X (60 : Int32) (by decide) dX9_counted_242 ?_
                            refine cr_callV X (As := [.int ((60 : Int32))]) (rest := []) (c_X9_sum Γ.2.1 E hEK S0 G ((60 : Int32))) ((cr_m0 E).at (cr_row S0 9 G 0) rfl) rfl 1 gX9_counted_X9_sum rfl rfl rfl (by decide +kernel) ⟨Nat.le_of_ble_eq_true rfl, Nat.le_of_ble_eq_true rfl⟩ (by decide) rfl rfl (Nat.le_of_ble_eq_true rfl) dX9_counted_244 (fun r244_4 => ?_)
                            show cr_P Γ E 2 _ 0 0 (cr_us S0 9 G) 247 ([(0, .ref (E.2.1 9 0)), (1, .int p1)]) ([.int r244_4]) _
                            exact cr_iret X rfl rfl dX9_counted_247
                          · refine cr_ite (fun h1_13 => ?_) (fun n1_13 => ?_)
                            · refine cr_tin X 13 248 h1_13 dX9_counted_1 (by decide) rfl rfl ?_
                              refine cr_aload_n X 0 rfl dX9_counted_248 ?_
                              refine cr_get X ((cr_m0 E).at (cr_row S0 9 G 0) rfl) rfl i_X9_counted_X9 0 (by decide) k_X9_counted_1 rfl dX9_counted_249 ?_
                              refine cr_sipush X (156 : Int32) (by decide) dX9_counted_252 ?_
                              refine cr_ialdk X 156 (by decide) (by decide) ((cr_m1 E).at (cr_row S0 9 G 1) rfl) dX9_counted_255 ?_
                              exact cr_iret X rfl rfl dX9_counted_256
                            · refine cr_tout X 257 dX9_counted_1 (by have q0 := lv_neT (a := 0) n1_0 rfl; have q1 := lv_neT (a := 1) n1_1 rfl; have q2 := lv_neT (a := 2) n1_2 rfl; have q3 := lv_neT (a := 3) n1_3 rfl; have q4 := lv_neT (a := 4) n1_4 rfl; have q5 := lv_neT (a := 5) n1_5 rfl; have q6 := lv_neT (a := 6) n1_6 rfl; have q7 := lv_neT (a := 7) n1_7 rfl; have q8 := lv_neT (a := 8) n1_8 rfl; have q9 := lv_neT (a := 9) n1_9 rfl; have q10 := lv_neT (a := 10) n1_10 rfl; have q11 := lv_neT (a := 11) n1_11 rfl; have q12 := lv_neT (a := 12) n1_12 rfl; have q13 := lv_neT (a := 13) n1_13 rfl; omega) rfl ?_
                              refine cr_aload_n X 0 rfl dX9_counted_257 ?_
                              refine cr_get X ((cr_m0 E).at (cr_row S0 9 G 0) rfl) rfl i_X9_counted_X9 5 (by decide) k_X9_counted_2 rfl dX9_counted_258 ?_
                              exact cr_iret X rfl rfl dX9_counted_261
theorem c_X9_counted_S (l : Launch) (E : cr_E) (hEK : cr_EK E) (S : cr_S) (p1 : Int32) : cr_M l E yX9_counted wsX9_counted rm_X9_counted [.ref (E.2.1 9 0), .int p1] S (cr_vI S) (s_X9_counted (S.1 9) p1) := by
  have h := c_X9_counted l E hEK S (S.1 9) p1
  rw [cr_us_self] at h
  exact h
theorem k_X9_count_1 : (Cond.fieldLink RX9 28 "CraneCampaignModel" "thrown" "I") ∈ wsX9_count := List.mem_of_getElem? (i := 1) (by rfl)
theorem i_X9_count_X9 : ∀ w ∈ wsX90, w ∈ wsX9_count := by decide +kernel
abbrev rm_X9_count : Room := { frames := 2, cells := 0, slots := 0, locals := 44 }
set_option maxHeartbeats 4000000 in
set_option maxRecDepth 100000 in
theorem c_X9_count (l : Launch) (E : cr_E) (hEK : cr_EK E) (S0 : cr_S) (G : cr_G) (p1 : Int32) : cr_M l E yX9_count wsX9_count rm_X9_count [.ref (E.2.1 9 0), .int p1] (cr_us S0 9 G) (cr_vIG S0 9) (s_X9_count p1 G) := by
  refine cr_enter (cc := cX9_count) (nL := 2) (rt := (some .int)) hEK (by decide) rfl (Nat.le_of_ble_eq_true rfl) (fun Γ hΓ X => ?_)
  subst hΓ
  have X : cr_X Γ E cX9_count 2 RX9 wsX9_count rm_X9_count (some .int) := X
  unfold s_X9_count
  show cr_P Γ E 2 _ 0 0 (cr_us S0 9 G) 0 ([(0, .ref (E.2.1 9 0)), (1, .int p1)]) [] _
  refine cr_aload_n X 0 rfl dX9_count_0 ?_
  refine cr_iconst X (0 : Int32) (by decide) dX9_count_1 ?_
  refine cr_putG X (cr_m0 E) 7 rfl rfl rfl i_X9_count_X9 tyX9 tyX9_ok nmX9 (by decide) k_X9_count_1 rfl rfl rfl (Nat.le_of_ble_eq_true rfl) dX9_count_2 (fun G2_1 => ?_)
  refine cr_iload_n X 1 rfl dX9_count_5 ?_
  refine cr_iconst X (0 : Int32) (by decide) dX9_count_6 ?_
  refine cr_bipush X (14 : Int32) (by decide) dX9_count_7 ?_
  refine cr_callS X (As := [.int p1, .int ((0 : Int32)), .int ((14 : Int32))]) (rest := []) (c_X9_within Γ.2.1 E hEK ((cr_us S0 9 G2_1)) p1 ((0 : Int32)) ((14 : Int32))) 3 gX9_count_X9_within rfl rfl rfl (by decide +kernel) ⟨Nat.le_of_ble_eq_true rfl, Nat.le_of_ble_eq_true rfl⟩ (by decide) rfl rfl (Nat.le_of_ble_eq_true rfl) dX9_count_9 (fun r9_2 => ?_)
  show cr_P Γ E 2 _ 0 0 (cr_us S0 9 G2_1) 12 ([(0, .ref (E.2.1 9 0)), (1, .int p1)]) ([.int (cr_b r9_2)]) _
  refine cr_ifb_eq X 23 dX9_count_12 rfl ?_ ?_
  · refine cr_aload_n X 0 rfl dX9_count_23 ?_
    refine cr_iconst X (1 : Int32) (by decide) dX9_count_24 ?_
    refine cr_callV X (As := [.int ((1 : Int32))]) (rest := []) (c_X9_fails Γ.2.1 E hEK S0 G2_1 ((1 : Int32))) ((cr_m0 E).at (cr_row S0 9 G2_1 0) rfl) rfl 1 gX9_count_X9_fails rfl rfl rfl (by decide +kernel) ⟨Nat.le_of_ble_eq_true rfl, Nat.le_of_ble_eq_true rfl⟩ (by decide) rfl rfl (Nat.le_of_ble_eq_true rfl) dX9_count_25 (fun r25_3 => ?_)
    show cr_P Γ E 2 _ 0 0 (cr_us S0 9 r25_3.2) 28 ([(0, .ref (E.2.1 9 0)), (1, .int p1)]) ([.int r25_3.1]) _
    exact cr_iret X rfl rfl dX9_count_28
  · refine cr_aload_n X 0 rfl dX9_count_15 ?_
    refine cr_iload_n X 1 rfl dX9_count_16 ?_
    refine cr_callV X (As := [.int p1]) (rest := []) (c_X9_counted Γ.2.1 E hEK S0 G2_1 p1) ((cr_m0 E).at (cr_row S0 9 G2_1 0) rfl) rfl 1 gX9_count_X9_counted rfl rfl rfl (by decide +kernel) ⟨Nat.le_of_ble_eq_true rfl, Nat.le_of_ble_eq_true rfl⟩ (by decide) rfl rfl (Nat.le_of_ble_eq_true rfl) dX9_count_17 (fun r17_4 => ?_)
    show cr_P Γ E 2 _ 0 0 (cr_us S0 9 G2_1) 20 ([(0, .ref (E.2.1 9 0)), (1, .int p1)]) ([.int r17_4]) _
    refine cr_goto X 28 dX9_count_20 rfl ?_
    exact cr_iret X rfl rfl dX9_count_28
theorem c_X9_count_S (l : Launch) (E : cr_E) (hEK : cr_EK E) (S : cr_S) (p1 : Int32) : cr_M l E yX9_count wsX9_count rm_X9_count [.ref (E.2.1 9 0), .int p1] S (cr_vIG S 9) (s_X9_count  p1 (S.1 9)) := by
  have h := c_X9_count l E hEK S (S.1 9) p1
  rw [cr_us_self] at h
  exact h
theorem k_X9_mix_1 : (Cond.constantLong RX9 186 (31)) ∈ wsX9_mix := List.mem_of_getElem? (i := 1) (by rfl)
theorem k_X9_mix_2 : (Cond.fieldLink RX9 188 "CraneCampaignModel" "h" "J") ∈ wsX9_mix := List.mem_of_getElem? (i := 2) (by rfl)
theorem i_X9_mix_X9 : ∀ w ∈ wsX90, w ∈ wsX9_mix := by decide +kernel
abbrev rm_X9_mix : Room := { frames := 0, cells := 0, slots := 0, locals := 0 }
set_option maxHeartbeats 4000000 in
set_option maxRecDepth 100000 in
theorem c_X9_mix (l : Launch) (E : cr_E) (hEK : cr_EK E) (S : cr_S) (p1 : Int64) : cr_M l E yX9_mix wsX9_mix rm_X9_mix [.ref (E.2.1 9 0), .long p1] S cr_vVS (s_X9_mix p1 S) := by
  refine cr_enter (cc := cX9_mix) (nL := 3) (rt := none) hEK (by decide) rfl (Nat.le_of_ble_eq_true rfl) (fun Γ hΓ X => ?_)
  subst hΓ
  have X : cr_X Γ E cX9_mix 3 RX9 wsX9_mix rm_X9_mix none := X
  unfold s_X9_mix
  show cr_P Γ E 3 _ 0 0 S 0 ([(0, .ref (E.2.1 9 0)), (1, .long p1)]) [] _
  refine cr_aload_n X 0 rfl dX9_mix_0 ?_
  refine cr_ldc2 X k_X9_mix_1 dX9_mix_1 ?_
  refine cr_aload_n X 0 rfl dX9_mix_4 ?_
  refine cr_get X ((cr_m0 E).at rfl rfl) rfl i_X9_mix_X9 8 (by decide) k_X9_mix_2 rfl dX9_mix_5 ?_
  refine cr_lmul X dX9_mix_8 ?_
  refine cr_lload_n X 1 rfl dX9_mix_9 ?_
  refine cr_ladd X dX9_mix_10 ?_
  refine cr_puth X i_X9_mix_X9 k_X9_mix_2 dX9_mix_11 (fun S11_1 => ?_)
  exact cr_vret X rfl rfl dX9_mix_14
theorem k_X9_placeOf_1 : (Cond.fieldLink RX9 7 "CraneCampaignModel" "z" "[I") ∈ wsX9_placeOf := List.mem_of_getElem? (i := 1) (by rfl)
theorem i_X9_placeOf_X9 : ∀ w ∈ wsX90, w ∈ wsX9_placeOf := by decide +kernel
abbrev rm_X9_placeOf : Room := { frames := 0, cells := 0, slots := 0, locals := 0 }
set_option maxHeartbeats 4000000 in
set_option maxRecDepth 100000 in
theorem b_X9_placeOf_4 {Γ : cr_C} {E : cr_E} (X : cr_X Γ E cX9_placeOf 4 RX9 wsX9_placeOf rm_X9_placeOf (some .int)) (S0 : cr_S) (G : cr_G) : ∀ (n : Nat) (x1 : Int32) (x2 : Int32) (x3 : Int32), cr_P Γ E 4 (cr_F Γ E (cr_vI (cr_us S0 9 G))) 0 0 (cr_us S0 9 G) 4 ([(0, .ref (E.2.1 9 0)), (1, .int x1), (2, .int x2), (3, .int x3)]) ([]) (s_X9_placeOf_4 G n x1 x2 x3) := by
  have hEK := X.2.2.2.2.2.2.1
  intro n
  induction n with
  | zero => intro x1 x2 x3; exact cr_none
  | succ n ih =>
    intro x1 x2 x3
    rw [s_X9_placeOf_4]
    refine cr_iload_n X 3 rfl dX9_placeOf_4 ?_
    refine cr_aload_n X 0 rfl dX9_placeOf_5 ?_
    refine cr_get X ((cr_m0 E).at (cr_row S0 9 G 0) rfl) rfl i_X9_placeOf_X9 0 (by decide) k_X9_placeOf_1 rfl dX9_placeOf_6 ?_
    refine cr_sipush X (145 : Int32) (by decide) dX9_placeOf_9 ?_
    refine cr_ialdk X 145 (by decide) (by decide) ((cr_m1 E).at (cr_row S0 9 G 1) rfl) dX9_placeOf_12 ?_
    refine cr_icmp_ge X 42 dX9_placeOf_13 rfl ?_ ?_
    · refine cr_iload_n X 2 rfl dX9_placeOf_42 ?_
      exact cr_iret X rfl rfl dX9_placeOf_43
    · refine cr_aload_n X 0 rfl dX9_placeOf_16 ?_
      refine cr_get X ((cr_m0 E).at (cr_row S0 9 G 0) rfl) rfl i_X9_placeOf_X9 0 (by decide) k_X9_placeOf_1 rfl dX9_placeOf_17 ?_
      refine cr_sipush X (146 : Int32) (by decide) dX9_placeOf_20 ?_
      refine cr_iload_n X 3 rfl dX9_placeOf_23 ?_
      refine cr_iadd X dX9_placeOf_24 ?_
      refine cr_iald X ((cr_m1 E).at (cr_row S0 9 G 1) rfl) dX9_placeOf_25 ?_
      refine cr_iload_n X 1 rfl dX9_placeOf_26 ?_
      refine cr_icmp_ne X 34 dX9_placeOf_27 rfl ?_ ?_
      · refine cr_iload_n X 2 rfl dX9_placeOf_34 ?_
        refine cr_istore_n X ([(2, .int x2), (0, .ref (E.2.1 9 0)), (1, .int x1), (3, .int x3)]) rfl (by decide) dX9_placeOf_35 ?_
        refine cr_iinc X (x3 + 1) (fun v36_1 => [(3, .int v36_1), (2, .int x2), (0, .ref (E.2.1 9 0)), (1, .int x1)]) 3 rfl rfl (fun _ => rfl) (by decide) dX9_placeOf_36 (fun v36_1 => ?_)
        refine cr_goto X 4 dX9_placeOf_39 rfl ?_
        refine cr_sub (lv' := [(0, .ref (E.2.1 9 0)), (1, .int x1), (2, .int x2), (3, .int v36_1)]) [2, 3, 1, 0] rfl ?_
        exact ih x1 x2 v36_1
      · refine cr_iload_n X 3 rfl dX9_placeOf_30 ?_
        refine cr_goto X 35 dX9_placeOf_31 rfl ?_
        refine cr_istore_n X ([(2, .int x3), (0, .ref (E.2.1 9 0)), (1, .int x1), (3, .int x3)]) rfl (by decide) dX9_placeOf_35 ?_
        refine cr_iinc X (x3 + 1) (fun v36_2 => [(3, .int v36_2), (2, .int x3), (0, .ref (E.2.1 9 0)), (1, .int x1)]) 3 rfl rfl (fun _ => rfl) (by decide) dX9_placeOf_36 (fun v36_2 => ?_)
        refine cr_goto X 4 dX9_placeOf_39 rfl ?_
        refine cr_sub (lv' := [(0, .ref (E.2.1 9 0)), (1, .int x1), (2, .int x3), (3, .int v36_2)]) [2, 3, 1, 0] rfl ?_
        exact ih x1 x3 v36_2
set_option maxHeartbeats 4000000 in
set_option maxRecDepth 100000 in
theorem c_X9_placeOf (l : Launch) (E : cr_E) (hEK : cr_EK E) (S0 : cr_S) (G : cr_G) (p1 : Int32) : cr_M l E yX9_placeOf wsX9_placeOf rm_X9_placeOf [.ref (E.2.1 9 0), .int p1] (cr_us S0 9 G) (cr_vI (cr_us S0 9 G)) (s_X9_placeOf G p1) := by
  refine cr_enter (cc := cX9_placeOf) (nL := 4) (rt := (some .int)) hEK (by decide) rfl (Nat.le_of_ble_eq_true rfl) (fun Γ hΓ X => ?_)
  subst hΓ
  have X : cr_X Γ E cX9_placeOf 4 RX9 wsX9_placeOf rm_X9_placeOf (some .int) := X
  unfold s_X9_placeOf
  show cr_P Γ E 4 _ 0 0 (cr_us S0 9 G) 0 ([(0, .ref (E.2.1 9 0)), (1, .int p1)]) [] _
  refine cr_iconst X (-1 : Int32) (by decide) dX9_placeOf_0 ?_
  refine cr_istore_n X ([(2, .int ((-1 : Int32))), (0, .ref (E.2.1 9 0)), (1, .int p1)]) rfl (by decide) dX9_placeOf_1 ?_
  refine cr_iconst X (0 : Int32) (by decide) dX9_placeOf_2 ?_
  refine cr_istore_n X ([(3, .int ((0 : Int32))), (2, .int ((-1 : Int32))), (0, .ref (E.2.1 9 0)), (1, .int p1)]) rfl (by decide) dX9_placeOf_3 ?_
  refine cr_sub (lv' := [(0, .ref (E.2.1 9 0)), (1, .int p1), (2, .int ((-1 : Int32))), (3, .int ((0 : Int32)))]) [2, 3, 1, 0] rfl ?_
  exact b_X9_placeOf_4 X S0 G 1200 p1 ((-1 : Int32)) ((0 : Int32))
theorem c_X9_placeOf_S (l : Launch) (E : cr_E) (hEK : cr_EK E) (S : cr_S) (p1 : Int32) : cr_M l E yX9_placeOf wsX9_placeOf rm_X9_placeOf [.ref (E.2.1 9 0), .int p1] S (cr_vI S) (s_X9_placeOf (S.1 9) p1) := by
  have h := c_X9_placeOf l E hEK S (S.1 9) p1
  rw [cr_us_self] at h
  exact h
theorem k_X9_turbineNow_1 : (Cond.fieldLink RX9 7 "CraneCampaignModel" "z" "[I") ∈ wsX9_turbineNow := List.mem_of_getElem? (i := 1) (by rfl)
theorem i_X9_turbineNow_X9 : ∀ w ∈ wsX90, w ∈ wsX9_turbineNow := by decide +kernel
abbrev rm_X9_turbineNow : Room := { frames := 1, cells := 0, slots := 0, locals := 23 }
set_option maxHeartbeats 4000000 in
set_option maxRecDepth 100000 in
theorem c_X9_turbineNow (l : Launch) (E : cr_E) (hEK : cr_EK E) (S0 : cr_S) (G : cr_G) (p1 : Int32) (p2 : Int32) : cr_M l E yX9_turbineNow wsX9_turbineNow rm_X9_turbineNow [.ref (E.2.1 9 0), .int p1, .int p2] (cr_us S0 9 G) (cr_vI (cr_us S0 9 G)) (s_X9_turbineNow G p1 p2) := by
  refine cr_enter (cc := cX9_turbineNow) (nL := 3) (rt := (some .int)) hEK (by decide) rfl (Nat.le_of_ble_eq_true rfl) (fun Γ hΓ X => ?_)
  subst hΓ
  have X : cr_X Γ E cX9_turbineNow 3 RX9 wsX9_turbineNow rm_X9_turbineNow (some .int) := X
  unfold s_X9_turbineNow
  show cr_P Γ E 3 _ 0 0 (cr_us S0 9 G) 0 ([(0, .ref (E.2.1 9 0)), (1, .int p1), (2, .int p2)]) [] _
  refine cr_iload_n X 2 rfl dX9_turbineNow_0 ?_
  refine cr_ite (fun h1_0 => ?_) (fun n1_0 => ?_)
  · refine cr_tin X 0 56 h1_0 dX9_turbineNow_1 (by decide) rfl rfl ?_
    refine cr_aload_n X 0 rfl dX9_turbineNow_56 ?_
    refine cr_get X ((cr_m0 E).at (cr_row S0 9 G 0) rfl) rfl i_X9_turbineNow_X9 0 (by decide) k_X9_turbineNow_1 rfl dX9_turbineNow_57 ?_
    refine cr_iconst X (0 : Int32) (by decide) dX9_turbineNow_60 ?_
    refine cr_iload_n X 1 rfl dX9_turbineNow_61 ?_
    refine cr_iadd X dX9_turbineNow_62 ?_
    refine cr_iald X ((cr_m1 E).at (cr_row S0 9 G 1) rfl) dX9_turbineNow_63 ?_
    exact cr_iret X rfl rfl dX9_turbineNow_64
  · refine cr_ite (fun h1_1 => ?_) (fun n1_1 => ?_)
    · refine cr_tin X 1 65 h1_1 dX9_turbineNow_1 (by decide) rfl rfl ?_
      refine cr_aload_n X 0 rfl dX9_turbineNow_65 ?_
      refine cr_get X ((cr_m0 E).at (cr_row S0 9 G 0) rfl) rfl i_X9_turbineNow_X9 0 (by decide) k_X9_turbineNow_1 rfl dX9_turbineNow_66 ?_
      refine cr_bipush X (10 : Int32) (by decide) dX9_turbineNow_69 ?_
      refine cr_iload_n X 1 rfl dX9_turbineNow_71 ?_
      refine cr_iadd X dX9_turbineNow_72 ?_
      refine cr_iald X ((cr_m1 E).at (cr_row S0 9 G 1) rfl) dX9_turbineNow_73 ?_
      exact cr_iret X rfl rfl dX9_turbineNow_74
    · refine cr_ite (fun h1_2 => ?_) (fun n1_2 => ?_)
      · refine cr_tin X 2 75 h1_2 dX9_turbineNow_1 (by decide) rfl rfl ?_
        refine cr_aload_n X 0 rfl dX9_turbineNow_75 ?_
        refine cr_get X ((cr_m0 E).at (cr_row S0 9 G 0) rfl) rfl i_X9_turbineNow_X9 0 (by decide) k_X9_turbineNow_1 rfl dX9_turbineNow_76 ?_
        refine cr_bipush X (20 : Int32) (by decide) dX9_turbineNow_79 ?_
        refine cr_iload_n X 1 rfl dX9_turbineNow_81 ?_
        refine cr_iadd X dX9_turbineNow_82 ?_
        refine cr_iald X ((cr_m1 E).at (cr_row S0 9 G 1) rfl) dX9_turbineNow_83 ?_
        exact cr_iret X rfl rfl dX9_turbineNow_84
      · refine cr_ite (fun h1_3 => ?_) (fun n1_3 => ?_)
        · refine cr_tin X 3 85 h1_3 dX9_turbineNow_1 (by decide) rfl rfl ?_
          refine cr_aload_n X 0 rfl dX9_turbineNow_85 ?_
          refine cr_get X ((cr_m0 E).at (cr_row S0 9 G 0) rfl) rfl i_X9_turbineNow_X9 0 (by decide) k_X9_turbineNow_1 rfl dX9_turbineNow_86 ?_
          refine cr_bipush X (30 : Int32) (by decide) dX9_turbineNow_89 ?_
          refine cr_iload_n X 1 rfl dX9_turbineNow_91 ?_
          refine cr_iadd X dX9_turbineNow_92 ?_
          refine cr_iald X ((cr_m1 E).at (cr_row S0 9 G 1) rfl) dX9_turbineNow_93 ?_
          exact cr_iret X rfl rfl dX9_turbineNow_94
        · refine cr_ite (fun h1_4 => ?_) (fun n1_4 => ?_)
          · refine cr_tin X 4 95 h1_4 dX9_turbineNow_1 (by decide) rfl rfl ?_
            refine cr_aload_n X 0 rfl dX9_turbineNow_95 ?_
            refine cr_get X ((cr_m0 E).at (cr_row S0 9 G 0) rfl) rfl i_X9_turbineNow_X9 0 (by decide) k_X9_turbineNow_1 rfl dX9_turbineNow_96 ?_
            refine cr_bipush X (40 : Int32) (by decide) dX9_turbineNow_99 ?_
            refine cr_iload_n X 1 rfl dX9_turbineNow_101 ?_
            refine cr_iadd X dX9_turbineNow_102 ?_
            refine cr_iald X ((cr_m1 E).at (cr_row S0 9 G 1) rfl) dX9_turbineNow_103 ?_
            exact cr_iret X rfl rfl dX9_turbineNow_104
          · refine cr_ite (fun h1_5 => ?_) (fun n1_5 => ?_)
            · refine cr_tin X 5 105 h1_5 dX9_turbineNow_1 (by decide) rfl rfl ?_
              refine cr_aload_n X 0 rfl dX9_turbineNow_105 ?_
              refine cr_iload_n X 1 rfl dX9_turbineNow_106 ?_
              refine cr_callV X (As := [.int p1]) (rest := []) (c_X9_limitOf Γ.2.1 E hEK S0 G p1) ((cr_m0 E).at (cr_row S0 9 G 0) rfl) rfl 1 gX9_turbineNow_X9_limitOf rfl rfl rfl (by decide +kernel) ⟨Nat.le_of_ble_eq_true rfl, Nat.le_of_ble_eq_true rfl⟩ (by decide) rfl rfl (Nat.le_of_ble_eq_true rfl) dX9_turbineNow_107 (fun r107_1 => ?_)
              show cr_P Γ E 3 _ 0 0 (cr_us S0 9 G) 110 ([(0, .ref (E.2.1 9 0)), (1, .int p1), (2, .int p2)]) ([.int r107_1]) _
              exact cr_iret X rfl rfl dX9_turbineNow_110
            · refine cr_ite (fun h1_6 => ?_) (fun n1_6 => ?_)
              · refine cr_tin X 6 111 h1_6 dX9_turbineNow_1 (by decide) rfl rfl ?_
                refine cr_aload_n X 0 rfl dX9_turbineNow_111 ?_
                refine cr_iload_n X 1 rfl dX9_turbineNow_112 ?_
                refine cr_callV X (As := [.int p1]) (rest := []) (c_X9_placeOf Γ.2.1 E hEK S0 G p1) ((cr_m0 E).at (cr_row S0 9 G 0) rfl) rfl 1 gX9_turbineNow_X9_placeOf rfl rfl rfl (by decide +kernel) ⟨Nat.le_of_ble_eq_true rfl, Nat.le_of_ble_eq_true rfl⟩ (by decide) rfl rfl (Nat.le_of_ble_eq_true rfl) dX9_turbineNow_113 (fun r113_2 => ?_)
                show cr_P Γ E 3 _ 0 0 (cr_us S0 9 G) 116 ([(0, .ref (E.2.1 9 0)), (1, .int p1), (2, .int p2)]) ([.int r113_2]) _
                exact cr_iret X rfl rfl dX9_turbineNow_116
              · refine cr_ite (fun h1_7 => ?_) (fun n1_7 => ?_)
                · refine cr_tin X 7 117 h1_7 dX9_turbineNow_1 (by decide) rfl rfl ?_
                  refine cr_aload_n X 0 rfl dX9_turbineNow_117 ?_
                  refine cr_iload_n X 1 rfl dX9_turbineNow_118 ?_
                  refine cr_callV X (As := [.int p1]) (rest := []) (c_X9_ashore Γ.2.1 E hEK S0 G p1) ((cr_m0 E).at (cr_row S0 9 G 0) rfl) rfl 1 gX9_turbineNow_X9_ashore rfl rfl rfl (by decide +kernel) ⟨Nat.le_of_ble_eq_true rfl, Nat.le_of_ble_eq_true rfl⟩ (by decide) rfl rfl (Nat.le_of_ble_eq_true rfl) dX9_turbineNow_119 (fun r119_3 => ?_)
                  show cr_P Γ E 3 _ 0 0 (cr_us S0 9 G) 122 ([(0, .ref (E.2.1 9 0)), (1, .int p1), (2, .int p2)]) ([.int r119_3]) _
                  exact cr_iret X rfl rfl dX9_turbineNow_122
                · refine cr_ite (fun h1_8 => ?_) (fun n1_8 => ?_)
                  · refine cr_tin X 8 123 h1_8 dX9_turbineNow_1 (by decide) rfl rfl ?_
                    refine cr_aload_n X 0 rfl dX9_turbineNow_123 ?_
                    refine cr_get X ((cr_m0 E).at (cr_row S0 9 G 0) rfl) rfl i_X9_turbineNow_X9 0 (by decide) k_X9_turbineNow_1 rfl dX9_turbineNow_124 ?_
                    refine cr_bipush X (50 : Int32) (by decide) dX9_turbineNow_127 ?_
                    refine cr_iload_n X 1 rfl dX9_turbineNow_129 ?_
                    refine cr_iadd X dX9_turbineNow_130 ?_
                    refine cr_iald X ((cr_m1 E).at (cr_row S0 9 G 1) rfl) dX9_turbineNow_131 ?_
                    exact cr_iret X rfl rfl dX9_turbineNow_132
                  · refine cr_ite (fun h1_9 => ?_) (fun n1_9 => ?_)
                    · refine cr_tin X 9 133 h1_9 dX9_turbineNow_1 (by decide) rfl rfl ?_
                      refine cr_aload_n X 0 rfl dX9_turbineNow_133 ?_
                      refine cr_get X ((cr_m0 E).at (cr_row S0 9 G 0) rfl) rfl i_X9_turbineNow_X9 0 (by decide) k_X9_turbineNow_1 rfl dX9_turbineNow_134 ?_
                      refine cr_bipush X (60 : Int32) (by decide) dX9_turbineNow_137 ?_
                      refine cr_iload_n X 1 rfl dX9_turbineNow_139 ?_
                      refine cr_iadd X dX9_turbineNow_140 ?_
                      refine cr_iald X ((cr_m1 E).at (cr_row S0 9 G 1) rfl) dX9_turbineNow_141 ?_
                      exact cr_iret X rfl rfl dX9_turbineNow_142
                    · refine cr_tout X 143 dX9_turbineNow_1 (by have q0 := lv_neT (a := 0) n1_0 rfl; have q1 := lv_neT (a := 1) n1_1 rfl; have q2 := lv_neT (a := 2) n1_2 rfl; have q3 := lv_neT (a := 3) n1_3 rfl; have q4 := lv_neT (a := 4) n1_4 rfl; have q5 := lv_neT (a := 5) n1_5 rfl; have q6 := lv_neT (a := 6) n1_6 rfl; have q7 := lv_neT (a := 7) n1_7 rfl; have q8 := lv_neT (a := 8) n1_8 rfl; have q9 := lv_neT (a := 9) n1_9 rfl; omega) rfl ?_
                      refine cr_aload_n X 0 rfl dX9_turbineNow_143 ?_
                      refine cr_iload_n X 1 rfl dX9_turbineNow_144 ?_
                      refine cr_aload_n X 0 rfl dX9_turbineNow_145 ?_
                      refine cr_aload_n X 0 rfl dX9_turbineNow_146 ?_
                      refine cr_get X ((cr_m0 E).at (cr_row S0 9 G 0) rfl) rfl i_X9_turbineNow_X9 0 (by decide) k_X9_turbineNow_1 rfl dX9_turbineNow_147 ?_
                      refine cr_sipush X (182 : Int32) (by decide) dX9_turbineNow_150 ?_
                      refine cr_ialdk X 182 (by decide) (by decide) ((cr_m1 E).at (cr_row S0 9 G 1) rfl) dX9_turbineNow_153 ?_
                      refine cr_callV X (As := [.int (((G 1) 182))]) (rest := [.int p1, .ref (E.2.1 9 0)]) (c_X9_windAt Γ.2.1 E hEK S0 G (((G 1) 182))) ((cr_m0 E).at (cr_row S0 9 G 0) rfl) rfl 1 gX9_turbineNow_X9_windAt rfl rfl rfl (by decide +kernel) ⟨Nat.le_of_ble_eq_true rfl, Nat.le_of_ble_eq_true rfl⟩ (by decide) rfl rfl (Nat.le_of_ble_eq_true rfl) dX9_turbineNow_154 (fun r154_4 => ?_)
                      show cr_P Γ E 3 _ 0 0 (cr_us S0 9 G) 157 ([(0, .ref (E.2.1 9 0)), (1, .int p1), (2, .int p2)]) ([.int r154_4, .int p1, .ref (E.2.1 9 0)]) _
                      refine cr_callV X (As := [.int p1, .int r154_4]) (rest := []) (c_X9_full Γ.2.1 E hEK S0 G p1 r154_4) ((cr_m0 E).at (cr_row S0 9 G 0) rfl) rfl 2 gX9_turbineNow_X9_full rfl rfl rfl (by decide +kernel) ⟨Nat.le_of_ble_eq_true rfl, Nat.le_of_ble_eq_true rfl⟩ (by decide) rfl rfl (Nat.le_of_ble_eq_true rfl) dX9_turbineNow_157 (fun r157_5 => ?_)
                      show cr_P Γ E 3 _ 0 0 (cr_us S0 9 G) 160 ([(0, .ref (E.2.1 9 0)), (1, .int p1), (2, .int p2)]) ([.int r157_5]) _
                      exact cr_iret X rfl rfl dX9_turbineNow_160
theorem c_X9_turbineNow_S (l : Launch) (E : cr_E) (hEK : cr_EK E) (S : cr_S) (p1 : Int32) (p2 : Int32) : cr_M l E yX9_turbineNow wsX9_turbineNow rm_X9_turbineNow [.ref (E.2.1 9 0), .int p1, .int p2] S (cr_vI S) (s_X9_turbineNow (S.1 9) p1 p2) := by
  have h := c_X9_turbineNow l E hEK S (S.1 9) p1 p2
  rw [cr_us_self] at h
  exact h
theorem k_X9_windowOf_1 : (Cond.fieldLink RX9 7 "CraneCampaignModel" "z" "[I") ∈ wsX9_windowOf := List.mem_of_getElem? (i := 1) (by rfl)
theorem i_X9_windowOf_X9 : ∀ w ∈ wsX90, w ∈ wsX9_windowOf := by decide +kernel
abbrev rm_X9_windowOf : Room := { frames := 1, cells := 0, slots := 0, locals := 21 }
set_option maxHeartbeats 4000000 in
set_option maxRecDepth 100000 in
theorem b_X9_windowOf_44 {Γ : cr_C} {E : cr_E} (X : cr_X Γ E cX9_windowOf 5 RX9 wsX9_windowOf rm_X9_windowOf (some .int)) (S0 : cr_S) (G : cr_G) (k5 : Int32 → Int32 → Int32 → Int32 → Option Int32) (hk5 : ∀ (x1 : Int32) (x2 : Int32) (x3 : Int32) (x4 : Int32), cr_P Γ E 5 (cr_F Γ E (cr_vI (cr_us S0 9 G))) 0 0 (cr_us S0 9 G) 5 ([(0, .ref (E.2.1 9 0)), (1, .int x1), (2, .int x2), (3, .int x3), (4, .int x4)]) [] (k5 x1 x2 x3 x4)) (x1 : Int32) (x2 : Int32) (x4 : Int32) (y0 : Int32) : cr_P Γ E 5 (cr_F Γ E (cr_vI (cr_us S0 9 G))) 0 0 (cr_us S0 9 G) 44 ([(0, .ref (E.2.1 9 0)), (1, .int x1), (2, .int x2), (4, .int x4)]) ([.int y0]) (s_X9_windowOf_44 G k5 x1 x2 x4 y0) := by
  have hEK := X.2.2.2.2.2.2.1
  unfold s_X9_windowOf_44
  refine cr_istore_n X ([(3, .int y0), (0, .ref (E.2.1 9 0)), (1, .int x1), (2, .int x2), (4, .int x4)]) rfl (by decide) dX9_windowOf_44 ?_
  refine cr_iload_n X 0 rfl dX9_windowOf_45 ?_
  refine cr_iload_n X 3 rfl dX9_windowOf_46 ?_
  refine cr_icmp_lt X 57 dX9_windowOf_47 rfl ?_ ?_
  · refine cr_iinc X (x4 + 1) (fun v57_3 => [(4, .int v57_3), (3, .int y0), (0, .ref (E.2.1 9 0)), (1, .int x1), (2, .int x2)]) 4 rfl rfl (fun _ => rfl) (by decide) dX9_windowOf_57 (fun v57_3 => ?_)
    refine cr_goto X 5 dX9_windowOf_60 rfl ?_
    refine cr_sub (lv' := [(0, .ref (E.2.1 9 0)), (1, .int x1), (2, .int x2), (3, .int y0), (4, .int v57_3)]) [2, 3, 4, 1, 0] rfl ?_
    exact hk5 x1 x2 y0 v57_3
  · refine cr_iload X 4 rfl dX9_windowOf_50 ?_
    refine cr_iload_n X 3 rfl dX9_windowOf_52 ?_
    refine cr_isub X dX9_windowOf_53 ?_
    refine cr_iconst X (1 : Int32) (by decide) dX9_windowOf_54 ?_
    refine cr_iadd X dX9_windowOf_55 ?_
    exact cr_iret X rfl rfl dX9_windowOf_56
set_option maxHeartbeats 4000000 in
set_option maxRecDepth 100000 in
theorem b_X9_windowOf_5 {Γ : cr_C} {E : cr_E} (X : cr_X Γ E cX9_windowOf 5 RX9 wsX9_windowOf rm_X9_windowOf (some .int)) (S0 : cr_S) (G : cr_G) : ∀ (n : Nat) (x1 : Int32) (x2 : Int32) (x3 : Int32) (x4 : Int32), cr_P Γ E 5 (cr_F Γ E (cr_vI (cr_us S0 9 G))) 0 0 (cr_us S0 9 G) 5 ([(0, .ref (E.2.1 9 0)), (1, .int x1), (2, .int x2), (3, .int x3), (4, .int x4)]) ([]) (s_X9_windowOf_5 G n x1 x2 x3 x4) := by
  have hEK := X.2.2.2.2.2.2.1
  intro n
  induction n with
  | zero => intro x1 x2 x3 x4; exact cr_none
  | succ n ih =>
    intro x1 x2 x3 x4
    rw [s_X9_windowOf_5]
    refine cr_iload X 4 rfl dX9_windowOf_5 ?_
    refine cr_bipush X (96 : Int32) (by decide) dX9_windowOf_7 ?_
    refine cr_iload_n X 2 rfl dX9_windowOf_9 ?_
    refine cr_iadd X dX9_windowOf_10 ?_
    refine cr_icmp_ge X 63 dX9_windowOf_11 rfl ?_ ?_
    · refine cr_iconst X (-1 : Int32) (by decide) dX9_windowOf_63 ?_
      exact cr_iret X rfl rfl dX9_windowOf_64
    · refine cr_aload_n X 0 rfl dX9_windowOf_14 ?_
      refine cr_aload_n X 0 rfl dX9_windowOf_15 ?_
      refine cr_get X ((cr_m0 E).at (cr_row S0 9 G 0) rfl) rfl i_X9_windowOf_X9 0 (by decide) k_X9_windowOf_1 rfl dX9_windowOf_16 ?_
      refine cr_sipush X (182 : Int32) (by decide) dX9_windowOf_19 ?_
      refine cr_ialdk X 182 (by decide) (by decide) ((cr_m1 E).at (cr_row S0 9 G 1) rfl) dX9_windowOf_22 ?_
      refine cr_iload X 4 rfl dX9_windowOf_23 ?_
      refine cr_iadd X dX9_windowOf_25 ?_
      refine cr_callV X (As := [.int ((((G 1) 182) + x4))]) (rest := []) (c_X9_windAt Γ.2.1 E hEK S0 G ((((G 1) 182) + x4))) ((cr_m0 E).at (cr_row S0 9 G 0) rfl) rfl 1 gX9_windowOf_X9_windAt rfl rfl rfl (by decide +kernel) ⟨Nat.le_of_ble_eq_true rfl, Nat.le_of_ble_eq_true rfl⟩ (by decide) rfl rfl (Nat.le_of_ble_eq_true rfl) dX9_windowOf_26 (fun r26_1 => ?_)
      show cr_P Γ E 5 _ 0 0 (cr_us S0 9 G) 29 ([(0, .ref (E.2.1 9 0)), (1, .int x1), (2, .int x2), (3, .int x3), (4, .int x4)]) ([.int r26_1]) _
      refine cr_aload_n X 0 rfl dX9_windowOf_29 ?_
      refine cr_iload_n X 1 rfl dX9_windowOf_30 ?_
      refine cr_callV X (As := [.int x1]) (rest := [.int r26_1]) (c_X9_limitOf Γ.2.1 E hEK S0 G x1) ((cr_m0 E).at (cr_row S0 9 G 0) rfl) rfl 1 gX9_windowOf_X9_limitOf rfl rfl rfl (by decide +kernel) ⟨Nat.le_of_ble_eq_true rfl, Nat.le_of_ble_eq_true rfl⟩ (by decide) rfl rfl (Nat.le_of_ble_eq_true rfl) dX9_windowOf_31 (fun r31_2 => ?_)
      show cr_P Γ E 5 _ 0 0 (cr_us S0 9 G) 34 ([(0, .ref (E.2.1 9 0)), (1, .int x1), (2, .int x2), (3, .int x3), (4, .int x4)]) ([.int r31_2, .int r26_1]) _
      refine cr_icmp_gt X 43 dX9_windowOf_34 rfl ?_ ?_
      · refine cr_iconst X (0 : Int32) (by decide) dX9_windowOf_43 ?_
        refine cr_sub (lv' := [(0, .ref (E.2.1 9 0)), (1, .int x1), (2, .int x2), (4, .int x4)]) [0, 1, 2, 4] rfl ?_
        exact b_X9_windowOf_44 X S0 G (fun x1a x2a x3a x4a => s_X9_windowOf_5 G n x1a x2a x3a x4a) ih x1 x2 x4 ((0 : Int32))
      · refine cr_iload_n X 3 rfl dX9_windowOf_37 ?_
        refine cr_iconst X (1 : Int32) (by decide) dX9_windowOf_38 ?_
        refine cr_iadd X dX9_windowOf_39 ?_
        refine cr_goto X 44 dX9_windowOf_40 rfl ?_
        refine cr_sub (lv' := [(0, .ref (E.2.1 9 0)), (1, .int x1), (2, .int x2), (4, .int x4)]) [0, 1, 2, 4] rfl ?_
        exact b_X9_windowOf_44 X S0 G (fun x1a x2a x3a x4a => s_X9_windowOf_5 G n x1a x2a x3a x4a) ih x1 x2 x4 ((x3 + (1 : Int32)))
set_option maxHeartbeats 4000000 in
set_option maxRecDepth 100000 in
theorem c_X9_windowOf (l : Launch) (E : cr_E) (hEK : cr_EK E) (S0 : cr_S) (G : cr_G) (p1 : Int32) (p2 : Int32) : cr_M l E yX9_windowOf wsX9_windowOf rm_X9_windowOf [.ref (E.2.1 9 0), .int p1, .int p2] (cr_us S0 9 G) (cr_vI (cr_us S0 9 G)) (s_X9_windowOf G p1 p2) := by
  refine cr_enter (cc := cX9_windowOf) (nL := 5) (rt := (some .int)) hEK (by decide) rfl (Nat.le_of_ble_eq_true rfl) (fun Γ hΓ X => ?_)
  subst hΓ
  have X : cr_X Γ E cX9_windowOf 5 RX9 wsX9_windowOf rm_X9_windowOf (some .int) := X
  unfold s_X9_windowOf
  show cr_P Γ E 5 _ 0 0 (cr_us S0 9 G) 0 ([(0, .ref (E.2.1 9 0)), (1, .int p1), (2, .int p2)]) [] _
  refine cr_iconst X (0 : Int32) (by decide) dX9_windowOf_0 ?_
  refine cr_istore_n X ([(3, .int ((0 : Int32))), (0, .ref (E.2.1 9 0)), (1, .int p1), (2, .int p2)]) rfl (by decide) dX9_windowOf_1 ?_
  refine cr_iconst X (0 : Int32) (by decide) dX9_windowOf_2 ?_
  refine cr_istore X ([(4, .int ((0 : Int32))), (3, .int ((0 : Int32))), (0, .ref (E.2.1 9 0)), (1, .int p1), (2, .int p2)]) rfl (by decide) dX9_windowOf_3 ?_
  refine cr_sub (lv' := [(0, .ref (E.2.1 9 0)), (1, .int p1), (2, .int p2), (3, .int ((0 : Int32))), (4, .int ((0 : Int32)))]) [2, 3, 4, 1, 0] rfl ?_
  exact b_X9_windowOf_5 X S0 G 1200 p1 p2 ((0 : Int32)) ((0 : Int32))
theorem c_X9_windowOf_S (l : Launch) (E : cr_E) (hEK : cr_EK E) (S : cr_S) (p1 : Int32) (p2 : Int32) : cr_M l E yX9_windowOf wsX9_windowOf rm_X9_windowOf [.ref (E.2.1 9 0), .int p1, .int p2] S (cr_vI S) (s_X9_windowOf (S.1 9) p1 p2) := by
  have h := c_X9_windowOf l E hEK S (S.1 9) p1 p2
  rw [cr_us_self] at h
  exact h
