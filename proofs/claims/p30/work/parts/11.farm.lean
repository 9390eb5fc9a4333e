theorem k_X2_buildTurbine_1 : (Cond.fieldLink RX2 17 "CraneCampaign$Farm" "turbineCount" "I") ∈ wsX2_buildTurbine := List.mem_of_getElem? (i := 1) (by rfl)
theorem k_X2_buildTurbine_2 : (Cond.fieldLink RX2 11 "CraneCampaign$Farm" "turbines" "[LCraneCampaign$Turbine;") ∈ wsX2_buildTurbine := List.mem_of_getElem? (i := 2) (by rfl)
theorem i_X2_buildTurbine_X2 : ∀ w ∈ wsX20, w ∈ wsX2_buildTurbine := by decide +kernel
abbrev rm_X2_buildTurbine : Room := { frames := 1, cells := 0, slots := 0, locals := 23 }
set_option maxHeartbeats 4000000 in
set_option maxRecDepth 100000 in
theorem c_X2_buildTurbine (l : Launch) (E : cr_E) (hEK : cr_EK E) (S0 : cr_S) {f : Nat} (hf : f < 8) (G : cr_G) (p1 : Int32) (p2 : Int32) (p3 : Int32) : cr_M l E yX2_buildTurbine wsX2_buildTurbine rm_X2_buildTurbine [.ref (E.2.1 f 0), .int p1, .int p2, .int p3] (cr_us S0 f G) (cr_vIG S0 f) (s_X2_buildTurbine p1 p2 p3 G) := by
  refine cr_enter (cc := cX2_buildTurbine) (nL := 4) (rt := (some .int)) hEK (by decide) rfl (Nat.le_of_ble_eq_true rfl) (fun Γ hΓ X => ?_)
  subst hΓ
  have X : cr_X Γ E cX2_buildTurbine 4 RX2 wsX2_buildTurbine rm_X2_buildTurbine (some .int) := X
  unfold s_X2_buildTurbine
  show cr_P Γ E 4 _ 0 0 (cr_us S0 f G) 0 ([(0, .ref (E.2.1 f 0)), (1, .int p1), (2, .int p2), (3, .int p3)]) [] _
  refine cr_aload_n X 0 rfl dX2_buildTurbine_0 ?_
  refine cr_get X ((cr_a0 E hf).at (cr_row S0 f G 0) rfl) rfl i_X2_buildTurbine_X2 1 (by decide) k_X2_buildTurbine_1 rfl dX2_buildTurbine_1 ?_
  refine cr_bipush X (10 : Int32) (by decide) dX2_buildTurbine_4 ?_
  refine cr_icmp_lt X 11 dX2_buildTurbine_6 rfl ?_ ?_
  · refine cr_aload_n X 0 rfl dX2_buildTurbine_11 ?_
    refine cr_get X ((cr_a0 E hf).at (cr_row S0 f G 0) rfl) rfl i_X2_buildTurbine_X2 0 (by decide) k_X2_buildTurbine_2 rfl dX2_buildTurbine_12 ?_
    refine cr_aload_n X 0 rfl dX2_buildTurbine_15 ?_
    refine cr_get X ((cr_a0 E hf).at (cr_row S0 f G 0) rfl) rfl i_X2_buildTurbine_X2 1 (by decide) k_X2_buildTurbine_1 rfl dX2_buildTurbine_16 ?_
    refine cr_aald X 3 rfl ((cr_a1 E hf).at (cr_row S0 f G 1) rfl) dX2_buildTurbine_19 (fun t19_1 ht19_1 => ?_)
    refine cr_iload_n X 1 rfl dX2_buildTurbine_20 ?_
    refine cr_iload_n X 2 rfl dX2_buildTurbine_21 ?_
    refine cr_iload_n X 3 rfl dX2_buildTurbine_22 ?_
    refine cr_callV X (As := [.int p1, .int p2, .int p3]) (rest := []) (c_X5_begin Γ.2.1 E hEK S0 hf ht19_1 G p1 p2 p3) ((cr_aT E hf ht19_1).at (cr_row S0 f G (t19_1 + 15)) rfl) rfl 3 gX2_buildTurbine_X5_begin rfl rfl rfl (by decide +kernel) ⟨Nat.le_of_ble_eq_true rfl, Nat.le_of_ble_eq_true rfl⟩ (by decide) rfl rfl (Nat.le_of_ble_eq_true rfl) dX2_buildTurbine_23 (fun r23_2 => ?_)
    show cr_P Γ E 4 _ 0 0 (cr_us S0 f r23_2) 26 ([(0, .ref (E.2.1 f 0)), (1, .int p1), (2, .int p2), (3, .int p3)]) ([]) _
    refine cr_aload_n X 0 rfl dX2_buildTurbine_26 ?_
    refine cr_dup X rfl dX2_buildTurbine_27 ?_
    refine cr_get X ((cr_a0 E hf).at (cr_row S0 f r23_2 0) rfl) rfl i_X2_buildTurbine_X2 1 (by decide) k_X2_buildTurbine_1 rfl dX2_buildTurbine_28 ?_
    refine cr_iconst X (1 : Int32) (by decide) dX2_buildTurbine_31 ?_
    refine cr_iadd X dX2_buildTurbine_32 ?_
    refine cr_putG X (cr_a0 E hf) 1 rfl rfl rfl i_X2_buildTurbine_X2 tyX2 tyX2_ok nmX2 (by decide) k_X2_buildTurbine_1 rfl rfl rfl (Nat.le_of_ble_eq_true rfl) dX2_buildTurbine_33 (fun G33_3 => ?_)
    refine cr_aload_n X 0 rfl dX2_buildTurbine_36 ?_
    refine cr_get X ((cr_a0 E hf).at (cr_row S0 f G33_3 0) rfl) rfl i_X2_buildTurbine_X2 1 (by decide) k_X2_buildTurbine_1 rfl dX2_buildTurbine_37 ?_
    refine cr_iconst X (1 : Int32) (by decide) dX2_buildTurbine_40 ?_
    refine cr_isub X dX2_buildTurbine_41 ?_
    exact cr_iret X rfl rfl dX2_buildTurbine_42
  · refine cr_iconst X (-1 : Int32) (by decide) dX2_buildTurbine_9 ?_
    exact cr_iret X rfl rfl dX2_buildTurbine_10
theorem c_X2_buildTurbine_S (l : Launch) (E : cr_E) (hEK : cr_EK E) (S : cr_S) {f : Nat} (hf : f < 8) (p1 : Int32) (p2 : Int32) (p3 : Int32) : cr_M l E yX2_buildTurbine wsX2_buildTurbine rm_X2_buildTurbine [.ref (E.2.1 f 0), .int p1, .int p2, .int p3] S (cr_vIG S f) (s_X2_buildTurbine  p1 p2 p3 (S.1 f)) := by
  have h := c_X2_buildTurbine l E hEK S hf (S.1 f) p1 p2 p3
  rw [cr_us_self] at h
  exact h
theorem k_X2_copyFrom_1 : (Cond.fieldLink RX2 17 "CraneCampaign$Farm" "turbineCount" "I") ∈ wsX2_copyFrom := List.mem_of_getElem? (i := 1) (by rfl)
theorem k_X2_copyFrom_2 : (Cond.fieldLink RX2 11 "CraneCampaign$Farm" "turbines" "[LCraneCampaign$Turbine;") ∈ wsX2_copyFrom := List.mem_of_getElem? (i := 2) (by rfl)
theorem k_X2_copyFrom_3 : (Cond.fieldLink RX2 24 "CraneCampaign$Farm" "bogs" "LCraneCampaign$Bogs;") ∈ wsX2_copyFrom := List.mem_of_getElem? (i := 3) (by rfl)
theorem k_X2_copyFrom_4 : (Cond.fieldLink RX2 31 "CraneCampaign$Farm" "harbour" "LCraneCampaign$Harbour;") ∈ wsX2_copyFrom := List.mem_of_getElem? (i := 4) (by rfl)
theorem k_X2_copyFrom_5 : (Cond.fieldLink RX2 38 "CraneCampaign$Farm" "plan" "LCraneCampaign$Plan;") ∈ wsX2_copyFrom := List.mem_of_getElem? (i := 5) (by rfl)
theorem k_X2_copyFrom_6 : (Cond.fieldLink RX2 45 "CraneCampaign$Farm" "crane" "LCraneCampaign$Crane;") ∈ wsX2_copyFrom := List.mem_of_getElem? (i := 6) (by rfl)
theorem k_X2_copyFrom_7 : (Cond.fieldLink RX2 52 "CraneCampaign$Farm" "winds" "LCraneCampaign$Winds;") ∈ wsX2_copyFrom := List.mem_of_getElem? (i := 7) (by rfl)
theorem k_X2_copyFrom_8 : (Cond.fieldLink RX2 56 "CraneCampaign$Farm" "settings" "[I") ∈ wsX2_copyFrom := List.mem_of_getElem? (i := 8) (by rfl)
theorem k_X2_copyFrom_9 : (Cond.methodLink RX2 70 arraycopyName) ∈ wsX2_copyFrom := List.mem_of_getElem? (i := 9) (by rfl)
theorem k_X2_copyFrom_10 : (Cond.native arraycopyName) ∈ wsX2_copyFrom := List.mem_of_getElem? (i := 10) (by rfl)
theorem k_X2_copyFrom_11 : (Cond.static arraycopyName) ∈ wsX2_copyFrom := List.mem_of_getElem? (i := 11) (by rfl)
theorem k_X2_copyFrom_12 : (Cond.initialized "java/lang/System") ∈ wsX2_copyFrom := List.mem_of_getElem? (i := 12) (by rfl)
theorem k_X2_copyFrom_13 : (Cond.fieldLink RX2 60 "CraneCampaign$Farm" "lostBy" "[I") ∈ wsX2_copyFrom := List.mem_of_getElem? (i := 13) (by rfl)
theorem k_X2_copyFrom_14 : (Cond.fieldLink RX2 63 "CraneCampaign$Farm" "hour" "I") ∈ wsX2_copyFrom := List.mem_of_getElem? (i := 14) (by rfl)
theorem i_X2_copyFrom_X2 : ∀ w ∈ wsX20, w ∈ wsX2_copyFrom := by decide +kernel
abbrev rm_X2_copyFrom : Room := { frames := 2, cells := 0, slots := 0, locals := 61 }
set_option maxHeartbeats 4000000 in
set_option maxRecDepth 100000 in
theorem b_X2_copyFrom_2 {Γ : cr_C} {E : cr_E} (X : cr_X Γ E cX2_copyFrom 3 RX2 wsX2_copyFrom rm_X2_copyFrom none) (S0 : cr_S) {f : Nat} (hf : f < 8) {g : Nat} (hg : g < 8) (hne : g ≠ f) : ∀ (n : Nat) (x2 : Int32) (G : cr_G), cr_P Γ E 3 (cr_F Γ E (cr_vVG S0 f)) 0 0 (cr_us S0 f G) 2 ([(0, .ref (E.2.1 f 0)), (1, .ref (E.2.1 g 0)), (2, .int x2)]) ([]) (s_X2_copyFrom_2 (S0.1 g) n x2 G) := by
  have hEK := X.2.2.2.2.2.2.1
  intro n
  induction n with
  | zero => intro x2 G; exact cr_none
  | succ n ih =>
    intro x2 G
    rw [s_X2_copyFrom_2]
    refine cr_iload_n X 2 rfl dX2_copyFrom_2 ?_
    refine cr_aload_n X 1 rfl dX2_copyFrom_3 ?_
    refine cr_get X ((cr_a0 E hg).at (cr_rowo S0 G hne 0) rfl) rfl i_X2_copyFrom_X2 1 (by decide) k_X2_copyFrom_1 rfl dX2_copyFrom_4 ?_
    refine cr_icmp_ge X 31 dX2_copyFrom_7 rfl ?_ ?_
    · refine cr_aload_n X 0 rfl dX2_copyFrom_31 ?_
      refine cr_aload_n X 1 rfl dX2_copyFrom_32 ?_
      refine cr_get X ((cr_a0 E hg).at (cr_rowo S0 G hne 0) rfl) rfl i_X2_copyFrom_X2 1 (by decide) k_X2_copyFrom_1 rfl dX2_copyFrom_33 ?_
      refine cr_putG X (cr_a0 E hf) 1 rfl rfl rfl i_X2_copyFrom_X2 tyX2 tyX2_ok nmX2 (by decide) k_X2_copyFrom_1 rfl rfl rfl (Nat.le_of_ble_eq_true rfl) dX2_copyFrom_36 (fun G36_1 => ?_)
      refine cr_aload_n X 0 rfl dX2_copyFrom_39 ?_
      refine cr_get X ((cr_a0 E hf).at (cr_row S0 f G36_1 0) rfl) rfl i_X2_copyFrom_X2 2 (by decide) k_X2_copyFrom_3 rfl dX2_copyFrom_40 ?_
      refine cr_aload_n X 1 rfl dX2_copyFrom_43 ?_
      refine cr_get X ((cr_a0 E hg).at (cr_rowo S0 G36_1 hne 0) rfl) rfl i_X2_copyFrom_X2 2 (by decide) k_X2_copyFrom_3 rfl dX2_copyFrom_44 ?_
      refine cr_callV X (As := [.ref (E.2.1 g 2)]) (rest := []) (c_X0_copyFrom Γ.2.1 E hEK S0 hf hg hne G36_1) ((cr_a2 E hf).at (cr_row S0 f G36_1 2) rfl) rfl 1 gX2_copyFrom_X0_copyFrom rfl rfl rfl (by decide +kernel) ⟨Nat.le_of_ble_eq_true rfl, Nat.le_of_ble_eq_true rfl⟩ (by decide) rfl rfl (Nat.le_of_ble_eq_true rfl) dX2_copyFrom_47 (fun r47_2 => ?_)
      show cr_P Γ E 3 _ 0 0 (cr_us S0 f r47_2) 50 ([(0, .ref (E.2.1 f 0)), (1, .ref (E.2.1 g 0)), (2, .int x2)]) ([]) _
      refine cr_aload_n X 0 rfl dX2_copyFrom_50 ?_
      refine cr_get X ((cr_a0 E hf).at (cr_row S0 f r47_2 0) rfl) rfl i_X2_copyFrom_X2 3 (by decide) k_X2_copyFrom_4 rfl dX2_copyFrom_51 ?_
      refine cr_aload_n X 1 rfl dX2_copyFrom_54 ?_
      refine cr_get X ((cr_a0 E hg).at (cr_rowo S0 r47_2 hne 0) rfl) rfl i_X2_copyFrom_X2 3 (by decide) k_X2_copyFrom_4 rfl dX2_copyFrom_55 ?_
      refine cr_callV X (As := [.ref (E.2.1 g 5)]) (rest := []) (c_X3_copyFrom Γ.2.1 E hEK S0 hf hg hne r47_2) ((cr_a5 E hf).at (cr_row S0 f r47_2 5) rfl) rfl 1 gX2_copyFrom_X3_copyFrom rfl rfl rfl (by decide +kernel) ⟨Nat.le_of_ble_eq_true rfl, Nat.le_of_ble_eq_true rfl⟩ (by decide) rfl rfl (Nat.le_of_ble_eq_true rfl) dX2_copyFrom_58 (fun r58_3 => ?_)
      show cr_P Γ E 3 _ 0 0 (cr_us S0 f r58_3) 61 ([(0, .ref (E.2.1 f 0)), (1, .ref (E.2.1 g 0)), (2, .int x2)]) ([]) _
      refine cr_aload_n X 0 rfl dX2_copyFrom_61 ?_
      refine cr_get X ((cr_a0 E hf).at (cr_row S0 f r58_3 0) rfl) rfl i_X2_copyFrom_X2 4 (by decide) k_X2_copyFrom_5 rfl dX2_copyFrom_62 ?_
      refine cr_aload_n X 1 rfl dX2_copyFrom_65 ?_
      refine cr_get X ((cr_a0 E hg).at (cr_rowo S0 r58_3 hne 0) rfl) rfl i_X2_copyFrom_X2 4 (by decide) k_X2_copyFrom_5 rfl dX2_copyFrom_66 ?_
      refine cr_callV X (As := [.ref (E.2.1 g 8)]) (rest := []) (c_X4_copyFrom Γ.2.1 E hEK S0 hf hg hne r58_3) ((cr_a8 E hf).at (cr_row S0 f r58_3 8) rfl) rfl 1 gX2_copyFrom_X4_copyFrom rfl rfl rfl (by decide +kernel) ⟨Nat.le_of_ble_eq_true rfl, Nat.le_of_ble_eq_true rfl⟩ (by decide) rfl rfl (Nat.le_of_ble_eq_true rfl) dX2_copyFrom_69 (fun r69_4 => ?_)
      show cr_P Γ E 3 _ 0 0 (cr_us S0 f r69_4) 72 ([(0, .ref (E.2.1 f 0)), (1, .ref (E.2.1 g 0)), (2, .int x2)]) ([]) _
      refine cr_aload_n X 0 rfl dX2_copyFrom_72 ?_
      refine cr_get X ((cr_a0 E hf).at (cr_row S0 f r69_4 0) rfl) rfl i_X2_copyFrom_X2 5 (by decide) k_X2_copyFrom_6 rfl dX2_copyFrom_73 ?_
      refine cr_aload_n X 1 rfl dX2_copyFrom_76 ?_
      refine cr_get X ((cr_a0 E hg).at (cr_rowo S0 r69_4 hne 0) rfl) rfl i_X2_copyFrom_X2 5 (by decide) k_X2_copyFrom_6 rfl dX2_copyFrom_77 ?_
      refine cr_callV X (As := [.ref (E.2.1 g 10)]) (rest := []) (c_X1_copyFrom Γ.2.1 E hEK S0 hf hg hne r69_4) ((cr_a10 E hf).at (cr_row S0 f r69_4 10) rfl) rfl 1 gX2_copyFrom_X1_copyFrom rfl rfl rfl (by decide +kernel) ⟨Nat.le_of_ble_eq_true rfl, Nat.le_of_ble_eq_true rfl⟩ (by decide) rfl rfl (Nat.le_of_ble_eq_true rfl) dX2_copyFrom_80 (fun r80_5 => ?_)
      show cr_P Γ E 3 _ 0 0 (cr_us S0 f r80_5) 83 ([(0, .ref (E.2.1 f 0)), (1, .ref (E.2.1 g 0)), (2, .int x2)]) ([]) _
      refine cr_aload_n X 0 rfl dX2_copyFrom_83 ?_
      refine cr_get X ((cr_a0 E hf).at (cr_row S0 f r80_5 0) rfl) rfl i_X2_copyFrom_X2 6 (by decide) k_X2_copyFrom_7 rfl dX2_copyFrom_84 ?_
      refine cr_aload_n X 1 rfl dX2_copyFrom_87 ?_
      refine cr_get X ((cr_a0 E hg).at (cr_rowo S0 r80_5 hne 0) rfl) rfl i_X2_copyFrom_X2 6 (by decide) k_X2_copyFrom_7 rfl dX2_copyFrom_88 ?_
      refine cr_callV X (As := [.ref (E.2.1 g 11)]) (rest := []) (c_X7_copyFrom Γ.2.1 E hEK S0 hf hg hne r80_5) ((cr_a11 E hf).at (cr_row S0 f r80_5 11) rfl) rfl 1 gX2_copyFrom_X7_copyFrom rfl rfl rfl (by decide +kernel) ⟨Nat.le_of_ble_eq_true rfl, Nat.le_of_ble_eq_true rfl⟩ (by decide) rfl rfl (Nat.le_of_ble_eq_true rfl) dX2_copyFrom_91 (fun r91_6 => ?_)
      show cr_P Γ E 3 _ 0 0 (cr_us S0 f r91_6) 94 ([(0, .ref (E.2.1 f 0)), (1, .ref (E.2.1 g 0)), (2, .int x2)]) ([]) _
      refine cr_aload_n X 1 rfl dX2_copyFrom_94 ?_
      refine cr_get X ((cr_a0 E hg).at (cr_rowo S0 r91_6 hne 0) rfl) rfl i_X2_copyFrom_X2 7 (by decide) k_X2_copyFrom_8 rfl dX2_copyFrom_95 ?_
      refine cr_iconst X (0 : Int32) (by decide) dX2_copyFrom_98 ?_
      refine cr_aload_n X 0 rfl dX2_copyFrom_99 ?_
      refine cr_get X ((cr_a0 E hf).at (cr_row S0 f r91_6 0) rfl) rfl i_X2_copyFrom_X2 7 (by decide) k_X2_copyFrom_8 rfl dX2_copyFrom_100 ?_
      refine cr_iconst X (0 : Int32) (by decide) dX2_copyFrom_103 ?_
      refine cr_bipush X (7 : Int32) (by decide) dX2_copyFrom_104 ?_
      refine cr_acopyG X ((S0.1 g) 13) ((cr_a13 E hg).at (cr_rowo S0 r91_6 hne 13) rfl) (cr_a13 E hf) (fun _ _ => rfl) 0 0 7 (by decide) (by decide) k_X2_copyFrom_9 k_X2_copyFrom_10 k_X2_copyFrom_11 k_X2_copyFrom_12 (by decide) (by decide +kernel) dX2_copyFrom_106 (fun G106_7 => ?_)
      refine cr_aload_n X 1 rfl dX2_copyFrom_109 ?_
      refine cr_get X ((cr_a0 E hg).at (cr_rowo S0 G106_7 hne 0) rfl) rfl i_X2_copyFrom_X2 8 (by decide) k_X2_copyFrom_13 rfl dX2_copyFrom_110 ?_
      refine cr_iconst X (0 : Int32) (by decide) dX2_copyFrom_113 ?_
      refine cr_aload_n X 0 rfl dX2_copyFrom_114 ?_
      refine cr_get X ((cr_a0 E hf).at (cr_row S0 f G106_7 0) rfl) rfl i_X2_copyFrom_X2 8 (by decide) k_X2_copyFrom_13 rfl dX2_copyFrom_115 ?_
      refine cr_iconst X (0 : Int32) (by decide) dX2_copyFrom_118 ?_
      refine cr_iconst X (5 : Int32) (by decide) dX2_copyFrom_119 ?_
      refine cr_acopyG X ((S0.1 g) 14) ((cr_a14 E hg).at (cr_rowo S0 G106_7 hne 14) rfl) (cr_a14 E hf) (fun _ _ => rfl) 0 0 5 (by decide) (by decide) k_X2_copyFrom_9 k_X2_copyFrom_10 k_X2_copyFrom_11 k_X2_copyFrom_12 (by decide) (by decide +kernel) dX2_copyFrom_120 (fun G120_8 => ?_)
      refine cr_aload_n X 0 rfl dX2_copyFrom_123 ?_
      refine cr_aload_n X 1 rfl dX2_copyFrom_124 ?_
      refine cr_get X ((cr_a0 E hg).at (cr_rowo S0 G120_8 hne 0) rfl) rfl i_X2_copyFrom_X2 9 (by decide) k_X2_copyFrom_14 rfl dX2_copyFrom_125 ?_
      refine cr_putG X (cr_a0 E hf) 9 rfl rfl rfl i_X2_copyFrom_X2 tyX2 tyX2_ok nmX2 (by decide) k_X2_copyFrom_14 rfl rfl rfl (Nat.le_of_ble_eq_true rfl) dX2_copyFrom_128 (fun G128_9 => ?_)
      exact cr_vret X rfl rfl dX2_copyFrom_131
    · refine cr_aload_n X 0 rfl dX2_copyFrom_10 ?_
      refine cr_get X ((cr_a0 E hf).at (cr_row S0 f G 0) rfl) rfl i_X2_copyFrom_X2 0 (by decide) k_X2_copyFrom_2 rfl dX2_copyFrom_11 ?_
      refine cr_iload_n X 2 rfl dX2_copyFrom_14 ?_
      refine cr_aald X 3 rfl ((cr_a1 E hf).at (cr_row S0 f G 1) rfl) dX2_copyFrom_15 (fun t15_10 ht15_10 => ?_)
      refine cr_aload_n X 1 rfl dX2_copyFrom_16 ?_
      refine cr_get X ((cr_a0 E hg).at (cr_rowo S0 G hne 0) rfl) rfl i_X2_copyFrom_X2 0 (by decide) k_X2_copyFrom_2 rfl dX2_copyFrom_17 ?_
      refine cr_iload_n X 2 rfl dX2_copyFrom_20 ?_
      refine cr_aald X 3 rfl ((cr_a1 E hg).at (cr_rowo S0 G hne 1) rfl) dX2_copyFrom_21 (fun t21_11 ht21_11 => ?_)
      refine cr_callV X (As := [.ref (E.2.1 g (t21_11 + 15))]) (rest := []) (c_X5_copyFrom Γ.2.1 E hEK S0 hf ht15_10 ht21_11 hg hne G) ((cr_aT E hf ht15_10).at (cr_row S0 f G (t15_10 + 15)) rfl) rfl 1 gX2_copyFrom_X5_copyFrom rfl rfl rfl (by decide +kernel) ⟨Nat.le_of_ble_eq_true rfl, Nat.le_of_ble_eq_true rfl⟩ (by decide) rfl rfl (Nat.le_of_ble_eq_true rfl) dX2_copyFrom_22 (fun r22_12 => ?_)
      show cr_P Γ E 3 _ 0 0 (cr_us S0 f r22_12) 25 ([(0, .ref (E.2.1 f 0)), (1, .ref (E.2.1 g 0)), (2, .int x2)]) ([]) _
      refine cr_iinc X (x2 + 1) (fun v25_13 => [(2, .int v25_13), (0, .ref (E.2.1 f 0)), (1, .ref (E.2.1 g 0))]) 2 rfl rfl (fun _ => rfl) (by decide) dX2_copyFrom_25 (fun v25_13 => ?_)
      refine cr_goto X 2 dX2_copyFrom_28 rfl ?_
      refine cr_sub (lv' := [(0, .ref (E.2.1 f 0)), (1, .ref (E.2.1 g 0)), (2, .int v25_13)]) [1, 2, 0] rfl ?_
      exact ih v25_13 r22_12
set_option maxHeartbeats 4000000 in
set_option maxRecDepth 100000 in
theorem c_X2_copyFrom (l : Launch) (E : cr_E) (hEK : cr_EK E) (S0 : cr_S) {f : Nat} (hf : f < 8) {g : Nat} (hg : g < 8) (hne : g ≠ f) (G : cr_G) : cr_M l E yX2_copyFrom wsX2_copyFrom rm_X2_copyFrom [.ref (E.2.1 f 0), .ref (E.2.1 g 0)] (cr_us S0 f G) (cr_vVG S0 f) (s_X2_copyFrom (S0.1 g) G) := by
  refine cr_enter (cc := cX2_copyFrom) (nL := 3) (rt := none) hEK (by decide) rfl (Nat.le_of_ble_eq_true rfl) (fun Γ hΓ X => ?_)
  subst hΓ
  have X : cr_X Γ E cX2_copyFrom 3 RX2 wsX2_copyFrom rm_X2_copyFrom none := X
  unfold s_X2_copyFrom
  show cr_P Γ E 3 _ 0 0 (cr_us S0 f G) 0 ([(0, .ref (E.2.1 f 0)), (1, .ref (E.2.1 g 0))]) [] _
  refine cr_iconst X (0 : Int32) (by decide) dX2_copyFrom_0 ?_
  refine cr_istore_n X ([(2, .int ((0 : Int32))), (0, .ref (E.2.1 f 0)), (1, .ref (E.2.1 g 0))]) rfl (by decide) dX2_copyFrom_1 ?_
  refine cr_sub (lv' := [(0, .ref (E.2.1 f 0)), (1, .ref (E.2.1 g 0)), (2, .int ((0 : Int32)))]) [1, 2, 0] rfl ?_
  exact b_X2_copyFrom_2 X S0 hf hg hne 1200 ((0 : Int32)) G
theorem c_X2_copyFrom_S (l : Launch) (E : cr_E) (hEK : cr_EK E) (S : cr_S) {f : Nat} (hf : f < 8) {g : Nat} (hg : g < 8) (hne : g ≠ f) : cr_M l E yX2_copyFrom wsX2_copyFrom rm_X2_copyFrom [.ref (E.2.1 f 0), .ref (E.2.1 g 0)] S (cr_vVG S f) (s_X2_copyFrom (S.1 g)  (S.1 f)) := by
  have h := c_X2_copyFrom l E hEK S hf hg hne (S.1 f)
  rw [cr_us_self] at h
  exact h
theorem k_X2_hasTurbine_1 : (Cond.fieldLink RX2 17 "CraneCampaign$Farm" "turbineCount" "I") ∈ wsX2_hasTurbine := List.mem_of_getElem? (i := 1) (by rfl)
theorem i_X2_hasTurbine_X2 : ∀ w ∈ wsX20, w ∈ wsX2_hasTurbine := by decide +kernel
abbrev rm_X2_hasTurbine : Room := { frames := 0, cells := 0, slots := 0, locals := 0 }
set_option maxHeartbeats 4000000 in
set_option maxRecDepth 100000 in
theorem c_X2_hasTurbine (l : Launch) (E : cr_E) (hEK : cr_EK E) (S0 : cr_S) {f : Nat} (hf : f < 8) (G : cr_G) (p1 : Int32) : cr_M l E yX2_hasTurbine wsX2_hasTurbine rm_X2_hasTurbine [.ref (E.2.1 f 0), .int p1] (cr_us S0 f G) (cr_vB (cr_us S0 f G)) (s_X2_hasTurbine G p1) := by
  refine cr_enter (cc := cX2_hasTurbine) (nL := 2) (rt := (some .boolean)) hEK (by decide) rfl (Nat.le_of_ble_eq_true rfl) (fun Γ hΓ X => ?_)
  subst hΓ
  have X : cr_X Γ E cX2_hasTurbine 2 RX2 wsX2_hasTurbine rm_X2_hasTurbine (some .boolean) := X
  unfold s_X2_hasTurbine
  show cr_P Γ E 2 _ 0 0 (cr_us S0 f G) 0 ([(0, .ref (E.2.1 f 0)), (1, .int p1)]) [] _
  refine cr_iload_n X 1 rfl dX2_hasTurbine_0 ?_
  refine cr_if_lt X 16 dX2_hasTurbine_1 rfl ?_ ?_
  · refine cr_iconst X (0 : Int32) (by decide) dX2_hasTurbine_16 ?_
    exact cr_zret X false rfl rfl rfl dX2_hasTurbine_17
  · refine cr_iload_n X 1 rfl dX2_hasTurbine_4 ?_
    refine cr_aload_n X 0 rfl dX2_hasTurbine_5 ?_
    refine cr_get X ((cr_a0 E hf).at (cr_row S0 f G 0) rfl) rfl i_X2_hasTurbine_X2 1 (by decide) k_X2_hasTurbine_1 rfl dX2_hasTurbine_6 ?_
    refine cr_icmp_ge X 16 dX2_hasTurbine_9 rfl ?_ ?_
    · refine cr_iconst X (0 : Int32) (by decide) dX2_hasTurbine_16 ?_
      exact cr_zret X false rfl rfl rfl dX2_hasTurbine_17
    · refine cr_iconst X (1 : Int32) (by decide) dX2_hasTurbine_12 ?_
      refine cr_goto X 17 dX2_hasTurbine_13 rfl ?_
      exact cr_zret X true rfl rfl rfl dX2_hasTurbine_17
theorem c_X2_hasTurbine_S (l : Launch) (E : cr_E) (hEK : cr_EK E) (S : cr_S) {f : Nat} (hf : f < 8) (p1 : Int32) : cr_M l E yX2_hasTurbine wsX2_hasTurbine rm_X2_hasTurbine [.ref (E.2.1 f 0), .int p1] S (cr_vB S) (s_X2_hasTurbine (S.1 f) p1) := by
  have h := c_X2_hasTurbine l E hEK S hf (S.1 f) p1
  rw [cr_us_self] at h
  exact h
theorem k_X2_dropFaultless_1 : (Cond.fieldLink RX2 38 "CraneCampaign$Farm" "plan" "LCraneCampaign$Plan;") ∈ wsX2_dropFaultless := List.mem_of_getElem? (i := 1) (by rfl)
theorem k_X2_dropFaultless_2 : (Cond.fieldLink RX2 153 "CraneCampaign$Plan" "count" "I") ∈ wsX2_dropFaultless := List.mem_of_getElem? (i := 2) (by rfl)
theorem k_X2_dropFaultless_3 : (Cond.fieldLink RX2 45 "CraneCampaign$Farm" "crane" "LCraneCampaign$Crane;") ∈ wsX2_dropFaultless := List.mem_of_getElem? (i := 3) (by rfl)
theorem k_X2_dropFaultless_4 : (Cond.fieldLink RX2 197 "CraneCampaign$Crane" "workedOn" "I") ∈ wsX2_dropFaultless := List.mem_of_getElem? (i := 4) (by rfl)
theorem k_X2_dropFaultless_5 : (Cond.fieldLink RX2 11 "CraneCampaign$Farm" "turbines" "[LCraneCampaign$Turbine;") ∈ wsX2_dropFaultless := List.mem_of_getElem? (i := 5) (by rfl)
theorem k_X2_dropFaultless_6 : (Cond.fieldLink RX2 102 "CraneCampaign$Turbine" "fault" "I") ∈ wsX2_dropFaultless := List.mem_of_getElem? (i := 6) (by rfl)
theorem i_X2_dropFaultless_X1 : ∀ w ∈ wsX10, w ∈ wsX2_dropFaultless := by decide +kernel
theorem i_X2_dropFaultless_X2 : ∀ w ∈ wsX20, w ∈ wsX2_dropFaultless := by decide +kernel
theorem i_X2_dropFaultless_X4 : ∀ w ∈ wsX40, w ∈ wsX2_dropFaultless := by decide +kernel
theorem i_X2_dropFaultless_X5 : ∀ w ∈ wsX50, w ∈ wsX2_dropFaultless := by decide +kernel
abbrev rm_X2_dropFaultless : Room := { frames := 1, cells := 0, slots := 0, locals := 22 }
set_option maxHeartbeats 4000000 in
set_option maxRecDepth 100000 in
theorem b_X2_dropFaultless_36 {Γ : cr_C} {E : cr_E} (X : cr_X Γ E cX2_dropFaultless 3 RX2 wsX2_dropFaultless rm_X2_dropFaultless none) (S0 : cr_S) {f : Nat} (hf : f < 8) : ∀ (n : Nat) (x1 : Int32) (G : cr_G), cr_P Γ E 3 (cr_F Γ E (cr_vVG S0 f)) 0 0 (cr_us S0 f G) 36 ([(0, .ref (E.2.1 f 0)), (1, .int x1)]) ([]) (s_X2_dropFaultless_36 n x1 G) := by
  have hEK := X.2.2.2.2.2.2.1
  intro n
  induction n with
  | zero => intro x1 G; exact cr_none
  | succ n ih =>
    intro x1 G
    rw [s_X2_dropFaultless_36]
    refine cr_iload_n X 1 rfl dX2_dropFaultless_36 ?_
    refine cr_bipush X (10 : Int32) (by decide) dX2_dropFaultless_37 ?_
    refine cr_icmp_ge X 92 dX2_dropFaultless_39 rfl ?_ ?_
    · exact cr_vret X rfl rfl dX2_dropFaultless_92
    · refine cr_aload_n X 0 rfl dX2_dropFaultless_42 ?_
      refine cr_get X ((cr_a0 E hf).at (cr_row S0 f G 0) rfl) rfl i_X2_dropFaultless_X2 4 (by decide) k_X2_dropFaultless_1 rfl dX2_dropFaultless_43 ?_
      refine cr_callV X (As := []) (rest := []) (c_X4_first Γ.2.1 E hEK S0 hf G) ((cr_a8 E hf).at (cr_row S0 f G 8) rfl) rfl 0 gX2_dropFaultless_X4_first rfl rfl rfl (by decide +kernel) ⟨Nat.le_of_ble_eq_true rfl, Nat.le_of_ble_eq_true rfl⟩ (by decide) rfl rfl (Nat.le_of_ble_eq_true rfl) dX2_dropFaultless_46 (fun r46_3 => ?_)
      show cr_P Γ E 3 _ 0 0 (cr_us S0 f G) 49 ([(0, .ref (E.2.1 f 0)), (1, .int x1)]) ([.int r46_3]) _
      refine cr_istore_n X ([(2, .int r46_3), (0, .ref (E.2.1 f 0)), (1, .int x1)]) rfl (by decide) dX2_dropFaultless_49 ?_
      refine cr_aload_n X 1 rfl dX2_dropFaultless_50 ?_
      refine cr_iload_n X 0 rfl dX2_dropFaultless_51 ?_
      refine cr_callV X (As := [.int r46_3]) (rest := []) (c_X2_hasTurbine Γ.2.1 E hEK S0 hf G r46_3) ((cr_a0 E hf).at (cr_row S0 f G 0) rfl) rfl 1 gX2_dropFaultless_X2_hasTurbine rfl rfl rfl (by decide +kernel) ⟨Nat.le_of_ble_eq_true rfl, Nat.le_of_ble_eq_true rfl⟩ (by decide) rfl rfl (Nat.le_of_ble_eq_true rfl) dX2_dropFaultless_52 (fun r52_4 => ?_)
      show cr_P Γ E 3 _ 0 0 (cr_us S0 f G) 55 ([(2, .int r46_3), (0, .ref (E.2.1 f 0)), (1, .int x1)]) ([.int (cr_b r52_4)]) _
      refine cr_ifb_eq X 70 dX2_dropFaultless_55 rfl ?_ ?_
      · exact cr_vret X rfl rfl dX2_dropFaultless_70
      · refine cr_aload_n X 1 rfl dX2_dropFaultless_58 ?_
        refine cr_get X ((cr_a0 E hf).at (cr_row S0 f G 0) rfl) rfl i_X2_dropFaultless_X2 0 (by decide) k_X2_dropFaultless_5 rfl dX2_dropFaultless_59 ?_
        refine cr_iload_n X 0 rfl dX2_dropFaultless_62 ?_
        refine cr_aald X 3 rfl ((cr_a1 E hf).at (cr_row S0 f G 1) rfl) dX2_dropFaultless_63 (fun t63_5 ht63_5 => ?_)
        refine cr_get X ((cr_aT E hf ht63_5).at (cr_row S0 f G (t63_5 + 15)) rfl) rfl i_X2_dropFaultless_X5 3 (by decide) k_X2_dropFaultless_6 rfl dX2_dropFaultless_64 ?_
        refine cr_if_eq X 71 dX2_dropFaultless_67 rfl ?_ ?_
        · refine cr_aload_n X 1 rfl dX2_dropFaultless_71 ?_
          refine cr_get X ((cr_a0 E hf).at (cr_row S0 f G 0) rfl) rfl i_X2_dropFaultless_X2 4 (by decide) k_X2_dropFaultless_1 rfl dX2_dropFaultless_72 ?_
          refine cr_iconst X (0 : Int32) (by decide) dX2_dropFaultless_75 ?_
          refine cr_callV X (As := [.int ((0 : Int32))]) (rest := []) (c_X4_removeAt Γ.2.1 E hEK S0 hf G ((0 : Int32))) ((cr_a8 E hf).at (cr_row S0 f G 8) rfl) rfl 1 gX2_dropFaultless_X4_removeAt rfl rfl rfl (by decide +kernel) ⟨Nat.le_of_ble_eq_true rfl, Nat.le_of_ble_eq_true rfl⟩ (by decide) rfl rfl (Nat.le_of_ble_eq_true rfl) dX2_dropFaultless_76 (fun r76_6 => ?_)
          show cr_P Γ E 3 _ 0 0 (cr_us S0 f r76_6) 79 ([(2, .int r46_3), (0, .ref (E.2.1 f 0)), (1, .int x1)]) ([]) _
          refine cr_aload_n X 1 rfl dX2_dropFaultless_79 ?_
          refine cr_get X ((cr_a0 E hf).at (cr_row S0 f r76_6 0) rfl) rfl i_X2_dropFaultless_X2 5 (by decide) k_X2_dropFaultless_3 rfl dX2_dropFaultless_80 ?_
          refine cr_callV X (As := []) (rest := []) (c_X1_forgetWork Γ.2.1 E hEK S0 hf r76_6) ((cr_a10 E hf).at (cr_row S0 f r76_6 10) rfl) rfl 0 gX2_dropFaultless_X1_forgetWork rfl rfl rfl (by decide +kernel) ⟨Nat.le_of_ble_eq_true rfl, Nat.le_of_ble_eq_true rfl⟩ (by decide) rfl rfl (Nat.le_of_ble_eq_true rfl) dX2_dropFaultless_83 (fun r83_7 => ?_)
          show cr_P Γ E 3 _ 0 0 (cr_us S0 f r83_7) 86 ([(2, .int r46_3), (0, .ref (E.2.1 f 0)), (1, .int x1)]) ([]) _
          refine cr_iinc X (x1 + 1) (fun v86_8 => [(1, .int v86_8), (2, .int r46_3), (0, .ref (E.2.1 f 0))]) 2 rfl rfl (fun _ => rfl) (by decide) dX2_dropFaultless_86 (fun v86_8 => ?_)
          refine cr_goto X 36 dX2_dropFaultless_89 rfl ?_
          refine cr_sub (lv' := [(0, .ref (E.2.1 f 0)), (1, .int v86_8)]) [2, 0] rfl ?_
          exact ih v86_8 r83_7
        · exact cr_vret X rfl rfl dX2_dropFaultless_70
set_option maxHeartbeats 4000000 in
set_option maxRecDepth 100000 in
theorem c_X2_dropFaultless (l : Launch) (E : cr_E) (hEK : cr_EK E) (S0 : cr_S) {f : Nat} (hf : f < 8) (G : cr_G) : cr_M l E yX2_dropFaultless wsX2_dropFaultless rm_X2_dropFaultless [.ref (E.2.1 f 0)] (cr_us S0 f G) (cr_vVG S0 f) (s_X2_dropFaultless G) := by
  refine cr_enter (cc := cX2_dropFaultless) (nL := 3) (rt := none) hEK (by decide) rfl (Nat.le_of_ble_eq_true rfl) (fun Γ hΓ X => ?_)
  subst hΓ
  have X : cr_X Γ E cX2_dropFaultless 3 RX2 wsX2_dropFaultless rm_X2_dropFaultless none := X
  unfold s_X2_dropFaultless
  show cr_P Γ E 3 _ 0 0 (cr_us S0 f G) 0 ([(0, .ref (E.2.1 f 0))]) [] _
  refine cr_aload_n X 0 rfl dX2_dropFaultless_0 ?_
  refine cr_get X ((cr_a0 E hf).at (cr_row S0 f G 0) rfl) rfl i_X2_dropFaultless_X2 4 (by decide) k_X2_dropFaultless_1 rfl dX2_dropFaultless_1 ?_
  refine cr_get X ((cr_a8 E hf).at (cr_row S0 f G 8) rfl) rfl i_X2_dropFaultless_X4 1 (by decide) k_X2_dropFaultless_2 rfl dX2_dropFaultless_4 ?_
  refine cr_if_le X 34 dX2_dropFaultless_7 rfl ?_ ?_
  · refine cr_iconst X (0 : Int32) (by decide) dX2_dropFaultless_34 ?_
    refine cr_istore_n X ([(1, .int ((0 : Int32))), (0, .ref (E.2.1 f 0))]) rfl (by decide) dX2_dropFaultless_35 ?_
    refine cr_sub (lv' := [(0, .ref (E.2.1 f 0)), (1, .int ((0 : Int32)))]) [1, 0] rfl ?_
    exact b_X2_dropFaultless_36 X S0 hf 1200 ((0 : Int32)) G
  · refine cr_aload_n X 0 rfl dX2_dropFaultless_10 ?_
    refine cr_get X ((cr_a0 E hf).at (cr_row S0 f G 0) rfl) rfl i_X2_dropFaultless_X2 4 (by decide) k_X2_dropFaultless_1 rfl dX2_dropFaultless_11 ?_
    refine cr_callV X (As := []) (rest := []) (c_X4_first Γ.2.1 E hEK S0 hf G) ((cr_a8 E hf).at (cr_row S0 f G 8) rfl) rfl 0 gX2_dropFaultless_X4_first rfl rfl rfl (by decide +kernel) ⟨Nat.le_of_ble_eq_true rfl, Nat.le_of_ble_eq_true rfl⟩ (by decide) rfl rfl (Nat.le_of_ble_eq_true rfl) dX2_dropFaultless_14 (fun r14_1 => ?_)
    show cr_P Γ E 3 _ 0 0 (cr_us S0 f G) 17 ([(0, .ref (E.2.1 f 0))]) ([.int r14_1]) _
    refine cr_aload_n X 0 rfl dX2_dropFaultless_17 ?_
    refine cr_get X ((cr_a0 E hf).at (cr_row S0 f G 0) rfl) rfl i_X2_dropFaultless_X2 5 (by decide) k_X2_dropFaultless_3 rfl dX2_dropFaultless_18 ?_
    refine cr_get X ((cr_a10 E hf).at (cr_row S0 f G 10) rfl) rfl i_X2_dropFaultless_X1 4 (by decide) k_X2_dropFaultless_4 rfl dX2_dropFaultless_21 ?_
    refine cr_icmp_eq X 34 dX2_dropFaultless_24 rfl ?_ ?_
    · refine cr_iconst X (0 : Int32) (by decide) dX2_dropFaultless_34 ?_
      refine cr_istore_n X ([(1, .int ((0 : Int32))), (0, .ref (E.2.1 f 0))]) rfl (by decide) dX2_dropFaultless_35 ?_
      refine cr_sub (lv' := [(0, .ref (E.2.1 f 0)), (1, .int ((0 : Int32)))]) [1, 0] rfl ?_
      exact b_X2_dropFaultless_36 X S0 hf 1200 ((0 : Int32)) G
    · refine cr_aload_n X 0 rfl dX2_dropFaultless_27 ?_
      refine cr_get X ((cr_a0 E hf).at (cr_row S0 f G 0) rfl) rfl i_X2_dropFaultless_X2 5 (by decide) k_X2_dropFaultless_3 rfl dX2_dropFaultless_28 ?_
      refine cr_callV X (As := []) (rest := []) (c_X1_forgetWork Γ.2.1 E hEK S0 hf G) ((cr_a10 E hf).at (cr_row S0 f G 10) rfl) rfl 0 gX2_dropFaultless_X1_forgetWork rfl rfl rfl (by decide +kernel) ⟨Nat.le_of_ble_eq_true rfl, Nat.le_of_ble_eq_true rfl⟩ (by decide) rfl rfl (Nat.le_of_ble_eq_true rfl) dX2_dropFaultless_31 (fun r31_2 => ?_)
      show cr_P Γ E 3 _ 0 0 (cr_us S0 f r31_2) 34 ([(0, .ref (E.2.1 f 0))]) ([]) _
      refine cr_iconst X (0 : Int32) (by decide) dX2_dropFaultless_34 ?_
      refine cr_istore_n X ([(1, .int ((0 : Int32))), (0, .ref (E.2.1 f 0))]) rfl (by decide) dX2_dropFaultless_35 ?_
      refine cr_sub (lv' := [(0, .ref (E.2.1 f 0)), (1, .int ((0 : Int32)))]) [1, 0] rfl ?_
      exact b_X2_dropFaultless_36 X S0 hf 1200 ((0 : Int32)) r31_2
theorem c_X2_dropFaultless_S (l : Launch) (E : cr_E) (hEK : cr_EK E) (S : cr_S) {f : Nat} (hf : f < 8) : cr_M l E yX2_dropFaultless wsX2_dropFaultless rm_X2_dropFaultless [.ref (E.2.1 f 0)] S (cr_vVG S f) (s_X2_dropFaultless   (S.1 f)) := by
  have h := c_X2_dropFaultless l E hEK S hf (S.1 f)
  rw [cr_us_self] at h
  exact h
theorem k_X2_faultCount_1 : (Cond.fieldLink RX2 17 "CraneCampaign$Farm" "turbineCount" "I") ∈ wsX2_faultCount := List.mem_of_getElem? (i := 1) (by rfl)
theorem k_X2_faultCount_2 : (Cond.fieldLink RX2 11 "CraneCampaign$Farm" "turbines" "[LCraneCampaign$Turbine;") ∈ wsX2_faultCount := List.mem_of_getElem? (i := 2) (by rfl)
theorem k_X2_faultCount_3 : (Cond.fieldLink RX2 102 "CraneCampaign$Turbine" "fault" "I") ∈ wsX2_faultCount := List.mem_of_getElem? (i := 3) (by rfl)
theorem i_X2_faultCount_X2 : ∀ w ∈ wsX20, w ∈ wsX2_faultCount := by decide +kernel
theorem i_X2_faultCount_X5 : ∀ w ∈ wsX50, w ∈ wsX2_faultCount := by decide +kernel
abbrev rm_X2_faultCount : Room := { frames := 0, cells := 0, slots := 0, locals := 0 }
set_option maxHeartbeats 4000000 in
set_option maxRecDepth 100000 in
theorem b_X2_faultCount_4 {Γ : cr_C} {E : cr_E} (X : cr_X Γ E cX2_faultCount 3 RX2 wsX2_faultCount rm_X2_faultCount (some .int)) (S0 : cr_S) {f : Nat} (hf : f < 8) (G : cr_G) : ∀ (n : Nat) (x1 : Int32) (x2 : Int32), cr_P Γ E 3 (cr_F Γ E (cr_vI (cr_us S0 f G))) 0 0 (cr_us S0 f G) 4 ([(0, .ref (E.2.1 f 0)), (1, .int x1), (2, .int x2)]) ([]) (s_X2_faultCount_4 G n x1 x2) := by
  have hEK := X.2.2.2.2.2.2.1
  intro n
  induction n with
  | zero => intro x1 x2; exact cr_none
  | succ n ih =>
    intro x1 x2
    rw [s_X2_faultCount_4]
    refine cr_iload_n X 2 rfl dX2_faultCount_4 ?_
    refine cr_aload_n X 0 rfl dX2_faultCount_5 ?_
    refine cr_get X ((cr_a0 E hf).at (cr_row S0 f G 0) rfl) rfl i_X2_faultCount_X2 1 (by decide) k_X2_faultCount_1 rfl dX2_faultCount_6 ?_
    refine cr_icmp_ge X 33 dX2_faultCount_9 rfl ?_ ?_
    · refine cr_iload_n X 1 rfl dX2_faultCount_33 ?_
      exact cr_iret X rfl rfl dX2_faultCount_34
    · refine cr_aload_n X 0 rfl dX2_faultCount_12 ?_
      refine cr_get X ((cr_a0 E hf).at (cr_row S0 f G 0) rfl) rfl i_X2_faultCount_X2 0 (by decide) k_X2_faultCount_2 rfl dX2_faultCount_13 ?_
      refine cr_iload_n X 2 rfl dX2_faultCount_16 ?_
      refine cr_aald X 3 rfl ((cr_a1 E hf).at (cr_row S0 f G 1) rfl) dX2_faultCount_17 (fun t17_1 ht17_1 => ?_)
      refine cr_get X ((cr_aT E hf ht17_1).at (cr_row S0 f G (t17_1 + 15)) rfl) rfl i_X2_faultCount_X5 3 (by decide) k_X2_faultCount_3 rfl dX2_faultCount_18 ?_
      refine cr_if_eq X 27 dX2_faultCount_21 rfl ?_ ?_
      · refine cr_iinc X (x2 + 1) (fun v27_2 => [(2, .int v27_2), (0, .ref (E.2.1 f 0)), (1, .int x1)]) 2 rfl rfl (fun _ => rfl) (by decide) dX2_faultCount_27 (fun v27_2 => ?_)
        refine cr_goto X 4 dX2_faultCount_30 rfl ?_
        refine cr_sub (lv' := [(0, .ref (E.2.1 f 0)), (1, .int x1), (2, .int v27_2)]) [1, 2, 0] rfl ?_
        exact ih x1 v27_2
      · refine cr_iinc X (x1 + 1) (fun v24_3 => [(1, .int v24_3), (0, .ref (E.2.1 f 0)), (2, .int x2)]) 1 rfl rfl (fun _ => rfl) (by decide) dX2_faultCount_24 (fun v24_3 => ?_)
        refine cr_iinc X (x2 + 1) (fun v27_4 => [(2, .int v27_4), (1, .int v24_3), (0, .ref (E.2.1 f 0))]) 2 rfl rfl (fun _ => rfl) (by decide) dX2_faultCount_27 (fun v27_4 => ?_)
        refine cr_goto X 4 dX2_faultCount_30 rfl ?_
        refine cr_sub (lv' := [(0, .ref (E.2.1 f 0)), (1, .int v24_3), (2, .int v27_4)]) [2, 1, 0] rfl ?_
        exact ih v24_3 v27_4
set_option maxHeartbeats 4000000 in
set_option maxRecDepth 100000 in
theorem c_X2_faultCount (l : Launch) (E : cr_E) (hEK : cr_EK E) (S0 : cr_S) {f : Nat} (hf : f < 8) (G : cr_G) : cr_M l E yX2_faultCount wsX2_faultCount rm_X2_faultCount [.ref (E.2.1 f 0)] (cr_us S0 f G) (cr_vI (cr_us S0 f G)) (s_X2_faultCount G) := by
  refine cr_enter (cc := cX2_faultCount) (nL := 3) (rt := (some .int)) hEK (by decide) rfl (Nat.le_of_ble_eq_true rfl) (fun Γ hΓ X => ?_)
  subst hΓ
  have X : cr_X Γ E cX2_faultCount 3 RX2 wsX2_faultCount rm_X2_faultCount (some .int) := X
  unfold s_X2_faultCount
  show cr_P Γ E 3 _ 0 0 (cr_us S0 f G) 0 ([(0, .ref (E.2.1 f 0))]) [] _
  refine cr_iconst X (0 : Int32) (by decide) dX2_faultCount_0 ?_
  refine cr_istore_n X ([(1, .int ((0 : Int32))), (0, .ref (E.2.1 f 0))]) rfl (by decide) dX2_faultCount_1 ?_
  refine cr_iconst X (0 : Int32) (by decide) dX2_faultCount_2 ?_
  refine cr_istore_n X ([(2, .int ((0 : Int32))), (1, .int ((0 : Int32))), (0, .ref (E.2.1 f 0))]) rfl (by decide) dX2_faultCount_3 ?_
  refine cr_sub (lv' := [(0, .ref (E.2.1 f 0)), (1, .int ((0 : Int32))), (2, .int ((0 : Int32)))]) [2, 1, 0] rfl ?_
  exact b_X2_faultCount_4 X S0 hf G 1200 ((0 : Int32)) ((0 : Int32))
theorem c_X2_faultCount_S (l : Launch) (E : cr_E) (hEK : cr_EK E) (S : cr_S) {f : Nat} (hf : f < 8) : cr_M l E yX2_faultCount wsX2_faultCount rm_X2_faultCount [.ref (E.2.1 f 0)] S (cr_vI S) (s_X2_faultCount (S.1 f)) := by
  have h := c_X2_faultCount l E hEK S hf (S.1 f)
  rw [cr_us_self] at h
  exact h
theorem k_X2_finishIfDone_1 : (Cond.fieldLink RX2 45 "CraneCampaign$Farm" "crane" "LCraneCampaign$Crane;") ∈ wsX2_finishIfDone := List.mem_of_getElem? (i := 1) (by rfl)
theorem k_X2_finishIfDone_2 : (Cond.fieldLink RX2 220 "CraneCampaign$Crane" "workDone" "I") ∈ wsX2_finishIfDone := List.mem_of_getElem? (i := 2) (by rfl)
theorem k_X2_finishIfDone_3 : (Cond.fieldLink RX2 56 "CraneCampaign$Farm" "settings" "[I") ∈ wsX2_finishIfDone := List.mem_of_getElem? (i := 3) (by rfl)
theorem k_X2_finishIfDone_4 : (Cond.fieldLink RX2 11 "CraneCampaign$Farm" "turbines" "[LCraneCampaign$Turbine;") ∈ wsX2_finishIfDone := List.mem_of_getElem? (i := 4) (by rfl)
theorem k_X2_finishIfDone_5 : (Cond.fieldLink RX2 102 "CraneCampaign$Turbine" "fault" "I") ∈ wsX2_finishIfDone := List.mem_of_getElem? (i := 5) (by rfl)
theorem k_X2_finishIfDone_6 : (Cond.fieldLink RX2 122 "CraneCampaign$Turbine" "age" "I") ∈ wsX2_finishIfDone := List.mem_of_getElem? (i := 6) (by rfl)
theorem k_X2_finishIfDone_7 : (Cond.fieldLink RX2 31 "CraneCampaign$Farm" "harbour" "LCraneCampaign$Harbour;") ∈ wsX2_finishIfDone := List.mem_of_getElem? (i := 7) (by rfl)
theorem k_X2_finishIfDone_8 : (Cond.fieldLink RX2 38 "CraneCampaign$Farm" "plan" "LCraneCampaign$Plan;") ∈ wsX2_finishIfDone := List.mem_of_getElem? (i := 8) (by rfl)
theorem i_X2_finishIfDone_X1 : ∀ w ∈ wsX10, w ∈ wsX2_finishIfDone := by decide +kernel
theorem i_X2_finishIfDone_X2 : ∀ w ∈ wsX20, w ∈ wsX2_finishIfDone := by decide +kernel
theorem i_X2_finishIfDone_X5 : ∀ w ∈ wsX50, w ∈ wsX2_finishIfDone := by decide +kernel
abbrev rm_X2_finishIfDone : Room := { frames := 2, cells := 0, slots := 0, locals := 44 }
set_option maxHeartbeats 4000000 in
set_option maxRecDepth 100000 in
theorem c_X2_finishIfDone (l : Launch) (E : cr_E) (hEK : cr_EK E) (S0 : cr_S) {f : Nat} (hf : f < 8) (G : cr_G) (p1 : Int32) : cr_M l E yX2_finishIfDone wsX2_finishIfDone rm_X2_finishIfDone [.ref (E.2.1 f 0), .int p1] (cr_us S0 f G) (cr_vVG S0 f) (s_X2_finishIfDone p1 G) := by
  refine cr_enter (cc := cX2_finishIfDone) (nL := 2) (rt := none) hEK (by decide) rfl (Nat.le_of_ble_eq_true rfl) (fun Γ hΓ X => ?_)
  subst hΓ
  have X : cr_X Γ E cX2_finishIfDone 2 RX2 wsX2_finishIfDone rm_X2_finishIfDone none := X
  unfold s_X2_finishIfDone
  show cr_P Γ E 2 _ 0 0 (cr_us S0 f G) 0 ([(0, .ref (E.2.1 f 0)), (1, .int p1)]) [] _
  refine cr_aload_n X 0 rfl dX2_finishIfDone_0 ?_
  refine cr_iload_n X 1 rfl dX2_finishIfDone_1 ?_
  refine cr_callV X (As := [.int p1]) (rest := []) (c_X2_hasTurbine Γ.2.1 E hEK S0 hf G p1) ((cr_a0 E hf).at (cr_row S0 f G 0) rfl) rfl 1 gX2_finishIfDone_X2_hasTurbine rfl rfl rfl (by decide +kernel) ⟨Nat.le_of_ble_eq_true rfl, Nat.le_of_ble_eq_true rfl⟩ (by decide) rfl rfl (Nat.le_of_ble_eq_true rfl) dX2_finishIfDone_2 (fun r2_1 => ?_)
  show cr_P Γ E 2 _ 0 0 (cr_us S0 f G) 5 ([(0, .ref (E.2.1 f 0)), (1, .int p1)]) ([.int (cr_b r2_1)]) _
  refine cr_ifb_eq X 34 dX2_finishIfDone_5 rfl ?_ ?_
  · exact cr_vret X rfl rfl dX2_finishIfDone_34
  · refine cr_aload_n X 0 rfl dX2_finishIfDone_8 ?_
    refine cr_get X ((cr_a0 E hf).at (cr_row S0 f G 0) rfl) rfl i_X2_finishIfDone_X2 5 (by decide) k_X2_finishIfDone_1 rfl dX2_finishIfDone_9 ?_
    refine cr_get X ((cr_a10 E hf).at (cr_row S0 f G 10) rfl) rfl i_X2_finishIfDone_X1 3 (by decide) k_X2_finishIfDone_2 rfl dX2_finishIfDone_12 ?_
    refine cr_aload_n X 0 rfl dX2_finishIfDone_15 ?_
    refine cr_get X ((cr_a0 E hf).at (cr_row S0 f G 0) rfl) rfl i_X2_finishIfDone_X2 7 (by decide) k_X2_finishIfDone_3 rfl dX2_finishIfDone_16 ?_
    refine cr_iconst X (2 : Int32) (by decide) dX2_finishIfDone_19 ?_
    refine cr_ialdk X 2 (by decide) (by decide) ((cr_a13 E hf).at (cr_row S0 f G 13) rfl) dX2_finishIfDone_20 ?_
    refine cr_aload_n X 0 rfl dX2_finishIfDone_21 ?_
    refine cr_get X ((cr_a0 E hf).at (cr_row S0 f G 0) rfl) rfl i_X2_finishIfDone_X2 0 (by decide) k_X2_finishIfDone_4 rfl dX2_finishIfDone_22 ?_
    refine cr_iload_n X 1 rfl dX2_finishIfDone_25 ?_
    refine cr_aald X 3 rfl ((cr_a1 E hf).at (cr_row S0 f G 1) rfl) dX2_finishIfDone_26 (fun t26_2 ht26_2 => ?_)
    refine cr_get X ((cr_aT E hf ht26_2).at (cr_row S0 f G (t26_2 + 15)) rfl) rfl i_X2_finishIfDone_X5 3 (by decide) k_X2_finishIfDone_5 rfl dX2_finishIfDone_27 ?_
    refine cr_imul X dX2_finishIfDone_30 ?_
    refine cr_icmp_ge X 35 dX2_finishIfDone_31 rfl ?_ ?_
    · refine cr_aload_n X 0 rfl dX2_finishIfDone_35 ?_
      refine cr_get X ((cr_a0 E hf).at (cr_row S0 f G 0) rfl) rfl i_X2_finishIfDone_X2 0 (by decide) k_X2_finishIfDone_4 rfl dX2_finishIfDone_36 ?_
      refine cr_iload_n X 1 rfl dX2_finishIfDone_39 ?_
      refine cr_aald X 3 rfl ((cr_a1 E hf).at (cr_row S0 f G 1) rfl) dX2_finishIfDone_40 (fun t40_3 ht40_3 => ?_)
      refine cr_iconst X (0 : Int32) (by decide) dX2_finishIfDone_41 ?_
      refine cr_putG X (cr_aT E hf ht40_3) 3 rfl rfl rfl i_X2_finishIfDone_X5 tyX5 tyX5_ok nmX5 (by decide) k_X2_finishIfDone_5 rfl rfl rfl (Nat.le_of_ble_eq_true rfl) dX2_finishIfDone_42 (fun G42_4 => ?_)
      refine cr_aload_n X 0 rfl dX2_finishIfDone_45 ?_
      refine cr_get X ((cr_a0 E hf).at (cr_row S0 f G42_4 0) rfl) rfl i_X2_finishIfDone_X2 0 (by decide) k_X2_finishIfDone_4 rfl dX2_finishIfDone_46 ?_
      refine cr_iload_n X 1 rfl dX2_finishIfDone_49 ?_
      refine cr_aald X 3 rfl ((cr_a1 E hf).at (cr_row S0 f G42_4 1) rfl) dX2_finishIfDone_50 (fun t50_5 ht50_5 => ?_)
      refine cr_iconst X (0 : Int32) (by decide) dX2_finishIfDone_51 ?_
      refine cr_putG X (cr_aT E hf ht50_5) 4 rfl rfl rfl i_X2_finishIfDone_X5 tyX5 tyX5_ok nmX5 (by decide) k_X2_finishIfDone_6 rfl rfl rfl (Nat.le_of_ble_eq_true rfl) dX2_finishIfDone_52 (fun G52_6 => ?_)
      refine cr_aload_n X 0 rfl dX2_finishIfDone_55 ?_
      refine cr_get X ((cr_a0 E hf).at (cr_row S0 f G52_6 0) rfl) rfl i_X2_finishIfDone_X2 3 (by decide) k_X2_finishIfDone_7 rfl dX2_finishIfDone_56 ?_
      refine cr_iload_n X 1 rfl dX2_finishIfDone_59 ?_
      refine cr_callV X (As := [.int p1]) (rest := []) (c_X3_useBladeFor Γ.2.1 E hEK S0 hf G52_6 p1) ((cr_a5 E hf).at (cr_row S0 f G52_6 5) rfl) rfl 1 gX2_finishIfDone_X3_useBladeFor rfl rfl rfl (by decide +kernel) ⟨Nat.le_of_ble_eq_true rfl, Nat.le_of_ble_eq_true rfl⟩ (by decide) rfl rfl (Nat.le_of_ble_eq_true rfl) dX2_finishIfDone_60 (fun r60_7 => ?_)
      show cr_P Γ E 2 _ 0 0 (cr_us S0 f r60_7) 63 ([(0, .ref (E.2.1 f 0)), (1, .int p1)]) ([]) _
      refine cr_aload_n X 0 rfl dX2_finishIfDone_63 ?_
      refine cr_get X ((cr_a0 E hf).at (cr_row S0 f r60_7 0) rfl) rfl i_X2_finishIfDone_X2 5 (by decide) k_X2_finishIfDone_1 rfl dX2_finishIfDone_64 ?_
      refine cr_callV X (As := []) (rest := []) (c_X1_forgetWork Γ.2.1 E hEK S0 hf r60_7) ((cr_a10 E hf).at (cr_row S0 f r60_7 10) rfl) rfl 0 gX2_finishIfDone_X1_forgetWork rfl rfl rfl (by decide +kernel) ⟨Nat.le_of_ble_eq_true rfl, Nat.le_of_ble_eq_true rfl⟩ (by decide) rfl rfl (Nat.le_of_ble_eq_true rfl) dX2_finishIfDone_67 (fun r67_8 => ?_)
      show cr_P Γ E 2 _ 0 0 (cr_us S0 f r67_8) 70 ([(0, .ref (E.2.1 f 0)), (1, .int p1)]) ([]) _
      refine cr_aload_n X 0 rfl dX2_finishIfDone_70 ?_
      refine cr_get X ((cr_a0 E hf).at (cr_row S0 f r67_8 0) rfl) rfl i_X2_finishIfDone_X2 4 (by decide) k_X2_finishIfDone_8 rfl dX2_finishIfDone_71 ?_
      refine cr_aload_n X 0 rfl dX2_finishIfDone_74 ?_
      refine cr_get X ((cr_a0 E hf).at (cr_row S0 f r67_8 0) rfl) rfl i_X2_finishIfDone_X2 4 (by decide) k_X2_finishIfDone_8 rfl dX2_finishIfDone_75 ?_
      refine cr_iload_n X 1 rfl dX2_finishIfDone_78 ?_
      refine cr_callV X (As := [.int p1]) (rest := [.ref (E.2.1 f 8)]) (c_X4_placeOf Γ.2.1 E hEK S0 hf r67_8 p1) ((cr_a8 E hf).at (cr_row S0 f r67_8 8) rfl) rfl 1 gX2_finishIfDone_X4_placeOf rfl rfl rfl (by decide +kernel) ⟨Nat.le_of_ble_eq_true rfl, Nat.le_of_ble_eq_true rfl⟩ (by decide) rfl rfl (Nat.le_of_ble_eq_true rfl) dX2_finishIfDone_79 (fun r79_9 => ?_)
      show cr_P Γ E 2 _ 0 0 (cr_us S0 f r67_8) 82 ([(0, .ref (E.2.1 f 0)), (1, .int p1)]) ([.int r79_9, .ref (E.2.1 f 8)]) _
      refine cr_callV X (As := [.int r79_9]) (rest := []) (c_X4_removeAt Γ.2.1 E hEK S0 hf r67_8 r79_9) ((cr_a8 E hf).at (cr_row S0 f r67_8 8) rfl) rfl 1 gX2_finishIfDone_X4_removeAt rfl rfl rfl (by decide +kernel) ⟨Nat.le_of_ble_eq_true rfl, Nat.le_of_ble_eq_true rfl⟩ (by decide) rfl rfl (Nat.le_of_ble_eq_true rfl) dX2_finishIfDone_82 (fun r82_10 => ?_)
      show cr_P Γ E 2 _ 0 0 (cr_us S0 f r82_10) 85 ([(0, .ref (E.2.1 f 0)), (1, .int p1)]) ([]) _
      exact cr_vret X rfl rfl dX2_finishIfDone_85
    · exact cr_vret X rfl rfl dX2_finishIfDone_34
theorem c_X2_finishIfDone_S (l : Launch) (E : cr_E) (hEK : cr_EK E) (S : cr_S) {f : Nat} (hf : f < 8) (p1 : Int32) : cr_M l E yX2_finishIfDone wsX2_finishIfDone rm_X2_finishIfDone [.ref (E.2.1 f 0), .int p1] S (cr_vVG S f) (s_X2_finishIfDone  p1 (S.1 f)) := by
  have h := c_X2_finishIfDone l E hEK S hf (S.1 f) p1
  rw [cr_us_self] at h
  exact h
theorem k_X2_hasTurbineAt_1 : (Cond.fieldLink RX2 17 "CraneCampaign$Farm" "turbineCount" "I") ∈ wsX2_hasTurbineAt := List.mem_of_getElem? (i := 1) (by rfl)
theorem k_X2_hasTurbineAt_2 : (Cond.fieldLink RX2 11 "CraneCampaign$Farm" "turbines" "[LCraneCampaign$Turbine;") ∈ wsX2_hasTurbineAt := List.mem_of_getElem? (i := 2) (by rfl)
theorem k_X2_hasTurbineAt_3 : (Cond.fieldLink RX2 95 "CraneCampaign$Turbine" "place" "I") ∈ wsX2_hasTurbineAt := List.mem_of_getElem? (i := 3) (by rfl)
theorem i_X2_hasTurbineAt_X2 : ∀ w ∈ wsX20, w ∈ wsX2_hasTurbineAt := by decide +kernel
theorem i_X2_hasTurbineAt_X5 : ∀ w ∈ wsX50, w ∈ wsX2_hasTurbineAt := by decide +kernel
abbrev rm_X2_hasTurbineAt : Room := { frames := 0, cells := 0, slots := 0, locals := 0 }
set_option maxHeartbeats 4000000 in
set_option maxRecDepth 100000 in
theorem b_X2_hasTurbineAt_2 {Γ : cr_C} {E : cr_E} (X : cr_X Γ E cX2_hasTurbineAt 3 RX2 wsX2_hasTurbineAt rm_X2_hasTurbineAt (some .boolean)) (S0 : cr_S) {f : Nat} (hf : f < 8) (G : cr_G) : ∀ (n : Nat) (x1 : Int32) (x2 : Int32), cr_P Γ E 3 (cr_F Γ E (cr_vB (cr_us S0 f G))) 0 0 (cr_us S0 f G) 2 ([(0, .ref (E.2.1 f 0)), (1, .int x1), (2, .int x2)]) ([]) (s_X2_hasTurbineAt_2 G n x1 x2) := by
  have hEK := X.2.2.2.2.2.2.1
  intro n
  induction n with
  | zero => intro x1 x2; exact cr_none
  | succ n ih =>
    intro x1 x2
    rw [s_X2_hasTurbineAt_2]
    refine cr_iload_n X 2 rfl dX2_hasTurbineAt_2 ?_
    refine cr_aload_n X 0 rfl dX2_hasTurbineAt_3 ?_
    refine cr_get X ((cr_a0 E hf).at (cr_row S0 f G 0) rfl) rfl i_X2_hasTurbineAt_X2 1 (by decide) k_X2_hasTurbineAt_1 rfl dX2_hasTurbineAt_4 ?_
    refine cr_icmp_ge X 31 dX2_hasTurbineAt_7 rfl ?_ ?_
    · refine cr_iconst X (0 : Int32) (by decide) dX2_hasTurbineAt_31 ?_
      exact cr_zret X false rfl rfl rfl dX2_hasTurbineAt_32
    · refine cr_aload_n X 0 rfl dX2_hasTurbineAt_10 ?_
      refine cr_get X ((cr_a0 E hf).at (cr_row S0 f G 0) rfl) rfl i_X2_hasTurbineAt_X2 0 (by decide) k_X2_hasTurbineAt_2 rfl dX2_hasTurbineAt_11 ?_
      refine cr_iload_n X 2 rfl dX2_hasTurbineAt_14 ?_
      refine cr_aald X 3 rfl ((cr_a1 E hf).at (cr_row S0 f G 1) rfl) dX2_hasTurbineAt_15 (fun t15_1 ht15_1 => ?_)
      refine cr_get X ((cr_aT E hf ht15_1).at (cr_row S0 f G (t15_1 + 15)) rfl) rfl i_X2_hasTurbineAt_X5 0 (by decide) k_X2_hasTurbineAt_3 rfl dX2_hasTurbineAt_16 ?_
      refine cr_iload_n X 1 rfl dX2_hasTurbineAt_19 ?_
      refine cr_icmp_ne X 25 dX2_hasTurbineAt_20 rfl ?_ ?_
      · refine cr_iinc X (x2 + 1) (fun v25_2 => [(2, .int v25_2), (0, .ref (E.2.1 f 0)), (1, .int x1)]) 2 rfl rfl (fun _ => rfl) (by decide) dX2_hasTurbineAt_25 (fun v25_2 => ?_)
        refine cr_goto X 2 dX2_hasTurbineAt_28 rfl ?_
        refine cr_sub (lv' := [(0, .ref (E.2.1 f 0)), (1, .int x1), (2, .int v25_2)]) [1, 2, 0] rfl ?_
        exact ih x1 v25_2
      · refine cr_iconst X (1 : Int32) (by decide) dX2_hasTurbineAt_23 ?_
        exact cr_zret X true rfl rfl rfl dX2_hasTurbineAt_24
set_option maxHeartbeats 4000000 in
set_option maxRecDepth 100000 in
theorem c_X2_hasTurbineAt (l : Launch) (E : cr_E) (hEK : cr_EK E) (S0 : cr_S) {f : Nat} (hf : f < 8) (G : cr_G) (p1 : Int32) : cr_M l E yX2_hasTurbineAt wsX2_hasTurbineAt rm_X2_hasTurbineAt [.ref (E.2.1 f 0), .int p1] (cr_us S0 f G) (cr_vB (cr_us S0 f G)) (s_X2_hasTurbineAt G p1) := by
  refine cr_enter (cc := cX2_hasTurbineAt) (nL := 3) (rt := (some .boolean)) hEK (by decide) rfl (Nat.le_of_ble_eq_true rfl) (fun Γ hΓ X => ?_)
  subst hΓ
  have X : cr_X Γ E cX2_hasTurbineAt 3 RX2 wsX2_hasTurbineAt rm_X2_hasTurbineAt (some .boolean) := X
  unfold s_X2_hasTurbineAt
  show cr_P Γ E 3 _ 0 0 (cr_us S0 f G) 0 ([(0, .ref (E.2.1 f 0)), (1, .int p1)]) [] _
  refine cr_iconst X (0 : Int32) (by decide) dX2_hasTurbineAt_0 ?_
  refine cr_istore_n X ([(2, .int ((0 : Int32))), (0, .ref (E.2.1 f 0)), (1, .int p1)]) rfl (by decide) dX2_hasTurbineAt_1 ?_
  refine cr_sub (lv' := [(0, .ref (E.2.1 f 0)), (1, .int p1), (2, .int ((0 : Int32)))]) [1, 2, 0] rfl ?_
  exact b_X2_hasTurbineAt_2 X S0 hf G 1200 p1 ((0 : Int32))
theorem c_X2_hasTurbineAt_S (l : Launch) (E : cr_E) (hEK : cr_EK E) (S : cr_S) {f : Nat} (hf : f < 8) (p1 : Int32) : cr_M l E yX2_hasTurbineAt wsX2_hasTurbineAt rm_X2_hasTurbineAt [.ref (E.2.1 f 0), .int p1] S (cr_vB S) (s_X2_hasTurbineAt (S.1 f) p1) := by
  have h := c_X2_hasTurbineAt l E hEK S hf (S.1 f) p1
  rw [cr_us_self] at h
  exact h
theorem k_X2_hoursBetween_1 : (Cond.fieldLink RX2 56 "CraneCampaign$Farm" "settings" "[I") ∈ wsX2_hoursBetween := List.mem_of_getElem? (i := 1) (by rfl)
theorem k_X2_hoursBetween_2 : (Cond.methodLink RX2 156 Lib.Math.max.name) ∈ wsX2_hoursBetween := List.mem_of_getElem? (i := 2) (by rfl)
theorem k_X2_hoursBetween_3 : (Cond.static Lib.Math.max.name) ∈ wsX2_hoursBetween := List.mem_of_getElem? (i := 3) (by rfl)
theorem k_X2_hoursBetween_4 : (Cond.initialized "java/lang/Math") ∈ wsX2_hoursBetween := List.mem_of_getElem? (i := 4) (by rfl)
theorem k_X2_hoursBetween_5 : (Cond.code Lib.Math.max.name Lib.Math.max.code 2 (some .int)) ∈ wsX2_hoursBetween := List.mem_of_getElem? (i := 5) (by rfl)
theorem k_X2_hoursBetween_6 : (Cond.methodLink RX2 162 Lib.Math.abs.name) ∈ wsX2_hoursBetween := List.mem_of_getElem? (i := 6) (by rfl)
theorem k_X2_hoursBetween_7 : (Cond.static Lib.Math.abs.name) ∈ wsX2_hoursBetween := List.mem_of_getElem? (i := 7) (by rfl)
theorem k_X2_hoursBetween_8 : (Cond.code Lib.Math.abs.name Lib.Math.abs.code 1 (some .int)) ∈ wsX2_hoursBetween := List.mem_of_getElem? (i := 8) (by rfl)
theorem k_X2_hoursBetween_9 : (Cond.fieldLink RX2 24 "CraneCampaign$Farm" "bogs" "LCraneCampaign$Bogs;") ∈ wsX2_hoursBetween := List.mem_of_getElem? (i := 9) (by rfl)
theorem k_X2_hoursBetween_10 : (Cond.methodLink RX2 165 Lib.Math.min.name) ∈ wsX2_hoursBetween := List.mem_of_getElem? (i := 10) (by rfl)
theorem k_X2_hoursBetween_11 : (Cond.static Lib.Math.min.name) ∈ wsX2_hoursBetween := List.mem_of_getElem? (i := 11) (by rfl)
theorem k_X2_hoursBetween_12 : (Cond.code Lib.Math.min.name Lib.Math.min.code 2 (some .int)) ∈ wsX2_hoursBetween := List.mem_of_getElem? (i := 12) (by rfl)
theorem i_X2_hoursBetween_X2 : ∀ w ∈ wsX20, w ∈ wsX2_hoursBetween := by decide +kernel
abbrev rm_X2_hoursBetween : Room := { frames := 1, cells := 0, slots := 0, locals := 25 }
set_option maxHeartbeats 4000000 in
set_option maxRecDepth 100000 in
theorem c_X2_hoursBetween (l : Launch) (E : cr_E) (hEK : cr_EK E) (S0 : cr_S) {f : Nat} (hf : f < 8) (G : cr_G) (p1 : Int32) (p2 : Int32) : cr_M l E yX2_hoursBetween wsX2_hoursBetween rm_X2_hoursBetween [.ref (E.2.1 f 0), .int p1, .int p2] (cr_us S0 f G) (cr_vI (cr_us S0 f G)) (s_X2_hoursBetween G p1 p2) := by
  refine cr_enter (cc := cX2_hoursBetween) (nL := 6) (rt := (some .int)) hEK (by decide) rfl (Nat.le_of_ble_eq_true rfl) (fun Γ hΓ X => ?_)
  subst hΓ
  have X : cr_X Γ E cX2_hoursBetween 6 RX2 wsX2_hoursBetween rm_X2_hoursBetween (some .int) := X
  unfold s_X2_hoursBetween
  show cr_P Γ E 6 _ 0 0 (cr_us S0 f G) 0 ([(0, .ref (E.2.1 f 0)), (1, .int p1), (2, .int p2)]) [] _
  refine cr_iconst X (1 : Int32) (by decide) dX2_hoursBetween_0 ?_
  refine cr_aload_n X 0 rfl dX2_hoursBetween_1 ?_
  refine cr_get X ((cr_a0 E hf).at (cr_row S0 f G 0) rfl) rfl i_X2_hoursBetween_X2 7 (by decide) k_X2_hoursBetween_1 rfl dX2_hoursBetween_2 ?_
  refine cr_iconst X (1 : Int32) (by decide) dX2_hoursBetween_5 ?_
  refine cr_ialdk X 1 (by decide) (by decide) ((cr_a13 E hf).at (cr_row S0 f G 13) rfl) dX2_hoursBetween_6 ?_
  refine cr_mmax X k_X2_hoursBetween_2 k_X2_hoursBetween_3 k_X2_hoursBetween_4 k_X2_hoursBetween_5 (by decide) (Nat.le_of_ble_eq_true rfl) (by decide) dX2_hoursBetween_7 ?_
  refine cr_istore_nb X (fun v10_1 => [(3, .int v10_1), (0, .ref (E.2.1 f 0)), (1, .int p1), (2, .int p2)]) (fun _ => rfl) (by decide) dX2_hoursBetween_10 (fun v10_1 => ?_)
  refine cr_iload_n X 2 rfl dX2_hoursBetween_11 ?_
  refine cr_iload_n X 3 rfl dX2_hoursBetween_12 ?_
  refine cr_isub X dX2_hoursBetween_13 ?_
  refine cr_mabs X k_X2_hoursBetween_6 k_X2_hoursBetween_7 k_X2_hoursBetween_4 k_X2_hoursBetween_8 (by decide) (Nat.le_of_ble_eq_true rfl) (by decide) dX2_hoursBetween_14 ?_
  refine cr_istoreb X (fun v17_2 => [(4, .int v17_2), (3, .int v10_1), (0, .ref (E.2.1 f 0)), (1, .int p1), (2, .int p2)]) (fun _ => rfl) (by decide) dX2_hoursBetween_17 (fun v17_2 => ?_)
  refine cr_aload_n X 2 rfl dX2_hoursBetween_19 ?_
  refine cr_get X ((cr_a0 E hf).at (cr_row S0 f G 0) rfl) rfl i_X2_hoursBetween_X2 2 (by decide) k_X2_hoursBetween_9 rfl dX2_hoursBetween_20 ?_
  refine cr_iload_n X 3 rfl dX2_hoursBetween_23 ?_
  refine cr_iload_n X 4 rfl dX2_hoursBetween_24 ?_
  refine cr_mmin X k_X2_hoursBetween_10 k_X2_hoursBetween_11 k_X2_hoursBetween_4 k_X2_hoursBetween_12 (by decide) (Nat.le_of_ble_eq_true rfl) (by decide) dX2_hoursBetween_25 ?_
  refine cr_iload_n X 3 rfl dX2_hoursBetween_28 ?_
  refine cr_iload_n X 4 rfl dX2_hoursBetween_29 ?_
  refine cr_mmax X k_X2_hoursBetween_2 k_X2_hoursBetween_3 k_X2_hoursBetween_4 k_X2_hoursBetween_5 (by decide) (Nat.le_of_ble_eq_true rfl) (by decide) dX2_hoursBetween_30 ?_
  refine cr_aload_n X 2 rfl dX2_hoursBetween_33 ?_
  refine cr_get X ((cr_a0 E hf).at (cr_row S0 f G 0) rfl) rfl i_X2_hoursBetween_X2 7 (by decide) k_X2_hoursBetween_1 rfl dX2_hoursBetween_34 ?_
  refine cr_bipush X (6 : Int32) (by decide) dX2_hoursBetween_37 ?_
  refine cr_ialdk X 6 (by decide) (by decide) ((cr_a13 E hf).at (cr_row S0 f G 13) rfl) dX2_hoursBetween_39 ?_
  refine cr_callV X (As := [.int ((cr_min p1 p2)), .int ((cr_max p1 p2)), .int (((G 13) 6))]) (rest := []) (c_X0_countBetween Γ.2.1 E hEK S0 hf G ((cr_min p1 p2)) ((cr_max p1 p2)) (((G 13) 6))) ((cr_a2 E hf).at (cr_row S0 f G 2) rfl) rfl 3 gX2_hoursBetween_X0_countBetween rfl rfl rfl (by decide +kernel) ⟨Nat.le_of_ble_eq_true rfl, Nat.le_of_ble_eq_true rfl⟩ (by decide) rfl rfl (Nat.le_of_ble_eq_true rfl) dX2_hoursBetween_40 (fun r40_3 => ?_)
  show cr_P Γ E 6 _ 0 0 (cr_us S0 f G) 43 ([(4, .int v17_2), (3, .int v10_1), (0, .ref (E.2.1 f 0)), (1, .int p1), (2, .int p2)]) ([.int r40_3]) _
  refine cr_istore X ([(5, .int r40_3), (4, .int v17_2), (3, .int v10_1), (0, .ref (E.2.1 f 0)), (1, .int p1), (2, .int p2)]) rfl (by decide) dX2_hoursBetween_43 ?_
  refine cr_iload X 1 rfl dX2_hoursBetween_45 ?_
  refine cr_iload_n X 2 rfl dX2_hoursBetween_47 ?_
  refine cr_iadd X dX2_hoursBetween_48 ?_
  refine cr_iconst X (1 : Int32) (by decide) dX2_hoursBetween_49 ?_
  refine cr_isub X dX2_hoursBetween_50 ?_
  refine cr_iload_n X 2 rfl dX2_hoursBetween_51 ?_
  refine cr_idiv X dX2_hoursBetween_52 ?_
  refine cr_iload X 0 rfl dX2_hoursBetween_53 ?_
  refine cr_aload_n X 3 rfl dX2_hoursBetween_55 ?_
  refine cr_get X ((cr_a0 E hf).at (cr_row S0 f G 0) rfl) rfl i_X2_hoursBetween_X2 7 (by decide) k_X2_hoursBetween_1 rfl dX2_hoursBetween_56 ?_
  refine cr_iconst X (4 : Int32) (by decide) dX2_hoursBetween_59 ?_
  refine cr_ialdk X 4 (by decide) (by decide) ((cr_a13 E hf).at (cr_row S0 f G 13) rfl) dX2_hoursBetween_60 ?_
  refine cr_imul X dX2_hoursBetween_61 ?_
  refine cr_iadd X dX2_hoursBetween_62 ?_
  exact cr_iret X rfl rfl dX2_hoursBetween_63
theorem c_X2_hoursBetween_S (l : Launch) (E : cr_E) (hEK : cr_EK E) (S : cr_S) {f : Nat} (hf : f < 8) (p1 : Int32) (p2 : Int32) : cr_M l E yX2_hoursBetween wsX2_hoursBetween rm_X2_hoursBetween [.ref (E.2.1 f 0), .int p1, .int p2] S (cr_vI S) (s_X2_hoursBetween (S.1 f) p1 p2) := by
  have h := c_X2_hoursBetween l E hEK S hf (S.1 f) p1 p2
  rw [cr_us_self] at h
  exact h
theorem k_X2_hoursUntilCalm_1 : (Cond.fieldLink RX2 11 "CraneCampaign$Farm" "turbines" "[LCraneCampaign$Turbine;") ∈ wsX2_hoursUntilCalm := List.mem_of_getElem? (i := 1) (by rfl)
theorem k_X2_hoursUntilCalm_2 : (Cond.fieldLink RX2 56 "CraneCampaign$Farm" "settings" "[I") ∈ wsX2_hoursUntilCalm := List.mem_of_getElem? (i := 2) (by rfl)
theorem k_X2_hoursUntilCalm_3 : (Cond.fieldLink RX2 52 "CraneCampaign$Farm" "winds" "LCraneCampaign$Winds;") ∈ wsX2_hoursUntilCalm := List.mem_of_getElem? (i := 3) (by rfl)
theorem k_X2_hoursUntilCalm_4 : (Cond.fieldLink RX2 63 "CraneCampaign$Farm" "hour" "I") ∈ wsX2_hoursUntilCalm := List.mem_of_getElem? (i := 4) (by rfl)
theorem i_X2_hoursUntilCalm_X2 : ∀ w ∈ wsX20, w ∈ wsX2_hoursUntilCalm := by decide +kernel
abbrev rm_X2_hoursUntilCalm : Room := { frames := 1, cells := 0, slots := 0, locals := 21 }
set_option maxHeartbeats 4000000 in
set_option maxRecDepth 100000 in
theorem b_X2_hoursUntilCalm_67 {Γ : cr_C} {E : cr_E} (X : cr_X Γ E cX2_hoursUntilCalm 6 RX2 wsX2_hoursUntilCalm rm_X2_hoursUntilCalm (some .int)) (S0 : cr_S) {f : Nat} (hf : f < 8) (G : cr_G) (k32 : Int32 → Int32 → Int32 → Int32 → Option Int32) (hk32 : ∀ (x2 : Int32) (x3 : Int32) (x4 : Int32) (x5 : Int32), cr_P Γ E 6 (cr_F Γ E (cr_vI (cr_us S0 f G))) 0 0 (cr_us S0 f G) 32 ([(0, .ref (E.2.1 f 0)), (2, .int x2), (3, .int x3), (4, .int x4), (5, .int x5)]) [] (k32 x2 x3 x4 x5)) (x2 : Int32) (x3 : Int32) (x5 : Int32) (y0 : Int32) : cr_P Γ E 6 (cr_F Γ E (cr_vI (cr_us S0 f G))) 0 0 (cr_us S0 f G) 67 ([(0, .ref (E.2.1 f 0)), (2, .int x2), (3, .int x3), (5, .int x5)]) ([.int y0]) (s_X2_hoursUntilCalm_67 G k32 x2 x3 x5 y0) := by
  have hEK := X.2.2.2.2.2.2.1
  unfold s_X2_hoursUntilCalm_67
  refine cr_istore X ([(4, .int y0), (0, .ref (E.2.1 f 0)), (2, .int x2), (3, .int x3), (5, .int x5)]) rfl (by decide) dX2_hoursUntilCalm_67 ?_
  refine cr_iload X 0 rfl dX2_hoursUntilCalm_69 ?_
  refine cr_iload_n X 2 rfl dX2_hoursUntilCalm_71 ?_
  refine cr_icmp_ne X 82 dX2_hoursUntilCalm_72 rfl ?_ ?_
  · refine cr_iinc X (x5 + 1) (fun v82_5 => [(5, .int v82_5), (4, .int y0), (0, .ref (E.2.1 f 0)), (2, .int x2), (3, .int x3)]) 4 rfl rfl (fun _ => rfl) (by decide) dX2_hoursUntilCalm_82 (fun v82_5 => ?_)
    refine cr_goto X 32 dX2_hoursUntilCalm_85 rfl ?_
    refine cr_sub (lv' := [(0, .ref (E.2.1 f 0)), (2, .int x2), (3, .int x3), (4, .int y0), (5, .int v82_5)]) [2, 3, 4, 1, 0] rfl ?_
    exact hk32 x2 x3 y0 v82_5
  · refine cr_iload X 4 rfl dX2_hoursUntilCalm_75 ?_
    refine cr_iconst X (1 : Int32) (by decide) dX2_hoursUntilCalm_77 ?_
    refine cr_iadd X dX2_hoursUntilCalm_78 ?_
    refine cr_iload_n X 2 rfl dX2_hoursUntilCalm_79 ?_
    refine cr_isub X dX2_hoursUntilCalm_80 ?_
    exact cr_iret X rfl rfl dX2_hoursUntilCalm_81
set_option maxHeartbeats 4000000 in
set_option maxRecDepth 100000 in
theorem b_X2_hoursUntilCalm_32 {Γ : cr_C} {E : cr_E} (X : cr_X Γ E cX2_hoursUntilCalm 6 RX2 wsX2_hoursUntilCalm rm_X2_hoursUntilCalm (some .int)) (S0 : cr_S) {f : Nat} (hf : f < 8) (G : cr_G) : ∀ (n : Nat) (x2 : Int32) (x3 : Int32) (x4 : Int32) (x5 : Int32), cr_P Γ E 6 (cr_F Γ E (cr_vI (cr_us S0 f G))) 0 0 (cr_us S0 f G) 32 ([(0, .ref (E.2.1 f 0)), (2, .int x2), (3, .int x3), (4, .int x4), (5, .int x5)]) ([]) (s_X2_hoursUntilCalm_32 G n x2 x3 x4 x5) := by
  have hEK := X.2.2.2.2.2.2.1
  intro n
  induction n with
  | zero => intro x2 x3 x4 x5; exact cr_none
  | succ n ih =>
    intro x2 x3 x4 x5
    rw [s_X2_hoursUntilCalm_32]
    refine cr_iload X 4 rfl dX2_hoursUntilCalm_32 ?_
    refine cr_bipush X (96 : Int32) (by decide) dX2_hoursUntilCalm_34 ?_
    refine cr_iload_n X 1 rfl dX2_hoursUntilCalm_36 ?_
    refine cr_iadd X dX2_hoursUntilCalm_37 ?_
    refine cr_icmp_ge X 88 dX2_hoursUntilCalm_38 rfl ?_ ?_
    · refine cr_iconst X (-1 : Int32) (by decide) dX2_hoursUntilCalm_88 ?_
      exact cr_iret X rfl rfl dX2_hoursUntilCalm_89
    · refine cr_aload_n X 0 rfl dX2_hoursUntilCalm_41 ?_
      refine cr_get X ((cr_a0 E hf).at (cr_row S0 f G 0) rfl) rfl i_X2_hoursUntilCalm_X2 6 (by decide) k_X2_hoursUntilCalm_3 rfl dX2_hoursUntilCalm_42 ?_
      refine cr_aload_n X 0 rfl dX2_hoursUntilCalm_45 ?_
      refine cr_get X ((cr_a0 E hf).at (cr_row S0 f G 0) rfl) rfl i_X2_hoursUntilCalm_X2 9 (by decide) k_X2_hoursUntilCalm_4 rfl dX2_hoursUntilCalm_46 ?_
      refine cr_iload X 4 rfl dX2_hoursUntilCalm_49 ?_
      refine cr_iadd X dX2_hoursUntilCalm_51 ?_
      refine cr_callV X (As := [.int ((((G 0) 9) + x5))]) (rest := []) (c_X7_at Γ.2.1 E hEK S0 hf G ((((G 0) 9) + x5))) ((cr_a11 E hf).at (cr_row S0 f G 11) rfl) rfl 1 gX2_hoursUntilCalm_X7_at rfl rfl rfl (by decide +kernel) ⟨Nat.le_of_ble_eq_true rfl, Nat.le_of_ble_eq_true rfl⟩ (by decide) rfl rfl (Nat.le_of_ble_eq_true rfl) dX2_hoursUntilCalm_52 (fun r52_4 => ?_)
      show cr_P Γ E 6 _ 0 0 (cr_us S0 f G) 55 ([(0, .ref (E.2.1 f 0)), (2, .int x2), (3, .int x3), (4, .int x4), (5, .int x5)]) ([.int r52_4]) _
      refine cr_iload_n X 2 rfl dX2_hoursUntilCalm_55 ?_
      refine cr_icmp_gt X 66 dX2_hoursUntilCalm_56 rfl ?_ ?_
      · refine cr_iconst X (0 : Int32) (by decide) dX2_hoursUntilCalm_66 ?_
        refine cr_sub (lv' := [(0, .ref (E.2.1 f 0)), (2, .int x2), (3, .int x3), (5, .int x5)]) [0, 1, 2, 4] rfl ?_
        exact b_X2_hoursUntilCalm_67 X S0 hf G (fun x2a x3a x4a x5a => s_X2_hoursUntilCalm_32 G n x2a x3a x4a x5a) ih x2 x3 x5 ((0 : Int32))
      · refine cr_iload X 3 rfl dX2_hoursUntilCalm_59 ?_
        refine cr_iconst X (1 : Int32) (by decide) dX2_hoursUntilCalm_61 ?_
        refine cr_iadd X dX2_hoursUntilCalm_62 ?_
        refine cr_goto X 67 dX2_hoursUntilCalm_63 rfl ?_
        refine cr_sub (lv' := [(0, .ref (E.2.1 f 0)), (2, .int x2), (3, .int x3), (5, .int x5)]) [0, 1, 2, 4] rfl ?_
        exact b_X2_hoursUntilCalm_67 X S0 hf G (fun x2a x3a x4a x5a => s_X2_hoursUntilCalm_32 G n x2a x3a x4a x5a) ih x2 x3 x5 ((x4 + (1 : Int32)))
set_option maxHeartbeats 4000000 in
set_option maxRecDepth 100000 in
theorem c_X2_hoursUntilCalm (l : Launch) (E : cr_E) (hEK : cr_EK E) (S0 : cr_S) {f : Nat} (hf : f < 8) (G : cr_G) (p1 : Int32) (p2 : Int32) : cr_M l E yX2_hoursUntilCalm wsX2_hoursUntilCalm rm_X2_hoursUntilCalm [.ref (E.2.1 f 0), .int p1, .int p2] (cr_us S0 f G) (cr_vI (cr_us S0 f G)) (s_X2_hoursUntilCalm G p1 p2) := by
  refine cr_enter (cc := cX2_hoursUntilCalm) (nL := 6) (rt := (some .int)) hEK (by decide) rfl (Nat.le_of_ble_eq_true rfl) (fun Γ hΓ X => ?_)
  subst hΓ
  have X : cr_X Γ E cX2_hoursUntilCalm 6 RX2 wsX2_hoursUntilCalm rm_X2_hoursUntilCalm (some .int) := X
  unfold s_X2_hoursUntilCalm
  show cr_P Γ E 6 _ 0 0 (cr_us S0 f G) 0 ([(0, .ref (E.2.1 f 0)), (1, .int p1), (2, .int p2)]) [] _
  refine cr_aload_n X 0 rfl dX2_hoursUntilCalm_0 ?_
  refine cr_iload_n X 1 rfl dX2_hoursUntilCalm_1 ?_
  refine cr_callV X (As := [.int p1]) (rest := []) (c_X2_hasTurbine Γ.2.1 E hEK S0 hf G p1) ((cr_a0 E hf).at (cr_row S0 f G 0) rfl) rfl 1 gX2_hoursUntilCalm_X2_hasTurbine rfl rfl rfl (by decide +kernel) ⟨Nat.le_of_ble_eq_true rfl, Nat.le_of_ble_eq_true rfl⟩ (by decide) rfl rfl (Nat.le_of_ble_eq_true rfl) dX2_hoursUntilCalm_2 (fun r2_1 => ?_)
  show cr_P Γ E 6 _ 0 0 (cr_us S0 f G) 5 ([(0, .ref (E.2.1 f 0)), (1, .int p1), (2, .int p2)]) ([.int (cr_b r2_1)]) _
  refine cr_ifb_ne X 10 dX2_hoursUntilCalm_5 rfl ?_ ?_
  · refine cr_aload_n X 0 rfl dX2_hoursUntilCalm_10 ?_
    refine cr_get X ((cr_a0 E hf).at (cr_row S0 f G 0) rfl) rfl i_X2_hoursUntilCalm_X2 0 (by decide) k_X2_hoursUntilCalm_1 rfl dX2_hoursUntilCalm_11 ?_
    refine cr_iload_n X 1 rfl dX2_hoursUntilCalm_14 ?_
    refine cr_aald X 3 rfl ((cr_a1 E hf).at (cr_row S0 f G 1) rfl) dX2_hoursUntilCalm_15 (fun t15_2 ht15_2 => ?_)
    refine cr_aload_n X 0 rfl dX2_hoursUntilCalm_16 ?_
    refine cr_get X ((cr_a0 E hf).at (cr_row S0 f G 0) rfl) rfl i_X2_hoursUntilCalm_X2 7 (by decide) k_X2_hoursUntilCalm_2 rfl dX2_hoursUntilCalm_17 ?_
    refine cr_iconst X (0 : Int32) (by decide) dX2_hoursUntilCalm_20 ?_
    refine cr_ialdk X 0 (by decide) (by decide) ((cr_a13 E hf).at (cr_row S0 f G 13) rfl) dX2_hoursUntilCalm_21 ?_
    refine cr_callV X (As := [.int (((G 13) 0))]) (rest := []) (c_X5_limit Γ.2.1 E hEK S0 hf ht15_2 G (((G 13) 0))) ((cr_aT E hf ht15_2).at (cr_row S0 f G (t15_2 + 15)) rfl) rfl 1 gX2_hoursUntilCalm_X5_limit rfl rfl rfl (by decide +kernel) ⟨Nat.le_of_ble_eq_true rfl, Nat.le_of_ble_eq_true rfl⟩ (by decide) rfl rfl (Nat.le_of_ble_eq_true rfl) dX2_hoursUntilCalm_22 (fun r22_3 => ?_)
    show cr_P Γ E 6 _ 0 0 (cr_us S0 f G) 25 ([(0, .ref (E.2.1 f 0)), (1, .int p1), (2, .int p2)]) ([.int r22_3]) _
    refine cr_istore_n X ([(3, .int r22_3), (0, .ref (E.2.1 f 0)), (1, .int p1), (2, .int p2)]) rfl (by decide) dX2_hoursUntilCalm_25 ?_
    refine cr_iconst X (0 : Int32) (by decide) dX2_hoursUntilCalm_26 ?_
    refine cr_istore X ([(4, .int ((0 : Int32))), (3, .int r22_3), (0, .ref (E.2.1 f 0)), (1, .int p1), (2, .int p2)]) rfl (by decide) dX2_hoursUntilCalm_27 ?_
    refine cr_iconst X (0 : Int32) (by decide) dX2_hoursUntilCalm_29 ?_
    refine cr_istore X ([(5, .int ((0 : Int32))), (4, .int ((0 : Int32))), (3, .int r22_3), (0, .ref (E.2.1 f 0)), (1, .int p1), (2, .int p2)]) rfl (by decide) dX2_hoursUntilCalm_30 ?_
    refine cr_sub (lv' := [(0, .ref (E.2.1 f 0)), (2, .int p2), (3, .int r22_3), (4, .int ((0 : Int32))), (5, .int ((0 : Int32)))]) [3, 5, 2, 1, 0] rfl ?_
    exact b_X2_hoursUntilCalm_32 X S0 hf G 1200 p2 r22_3 ((0 : Int32)) ((0 : Int32))
  · refine cr_iconst X (-1 : Int32) (by decide) dX2_hoursUntilCalm_8 ?_
    exact cr_iret X rfl rfl dX2_hoursUntilCalm_9
theorem c_X2_hoursUntilCalm_S (l : Launch) (E : cr_E) (hEK : cr_EK E) (S : cr_S) {f : Nat} (hf : f < 8) (p1 : Int32) (p2 : Int32) : cr_M l E yX2_hoursUntilCalm wsX2_hoursUntilCalm rm_X2_hoursUntilCalm [.ref (E.2.1 f 0), .int p1, .int p2] S (cr_vI S) (s_X2_hoursUntilCalm (S.1 f) p1 p2) := by
  have h := c_X2_hoursUntilCalm l E hEK S hf (S.1 f) p1 p2
  rw [cr_us_self] at h
  exact h
theorem k_X2_lostPower_1 : (Cond.fieldLink RX2 60 "CraneCampaign$Farm" "lostBy" "[I") ∈ wsX2_lostPower := List.mem_of_getElem? (i := 1) (by rfl)
theorem i_X2_lostPower_X2 : ∀ w ∈ wsX20, w ∈ wsX2_lostPower := by decide +kernel
abbrev rm_X2_lostPower : Room := { frames := 0, cells := 0, slots := 0, locals := 0 }
set_option maxHeartbeats 4000000 in
set_option maxRecDepth 100000 in
theorem b_X2_lostPower_4 {Γ : cr_C} {E : cr_E} (X : cr_X Γ E cX2_lostPower 3 RX2 wsX2_lostPower rm_X2_lostPower (some .int)) (S0 : cr_S) {f : Nat} (hf : f < 8) (G : cr_G) : ∀ (n : Nat) (x1 : Int32) (x2 : Int32), cr_P Γ E 3 (cr_F Γ E (cr_vI (cr_us S0 f G))) 0 0 (cr_us S0 f G) 4 ([(0, .ref (E.2.1 f 0)), (1, .int x1), (2, .int x2)]) ([]) (s_X2_lostPower_4 G n x1 x2) := by
  have hEK := X.2.2.2.2.2.2.1
  intro n
  induction n with
  | zero => intro x1 x2; exact cr_none
  | succ n ih =>
    intro x1 x2
    rw [s_X2_lostPower_4]
    refine cr_iload_n X 2 rfl dX2_lostPower_4 ?_
    refine cr_iconst X (5 : Int32) (by decide) dX2_lostPower_5 ?_
    refine cr_icmp_ge X 24 dX2_lostPower_6 rfl ?_ ?_
    · refine cr_iload_n X 1 rfl dX2_lostPower_24 ?_
      exact cr_iret X rfl rfl dX2_lostPower_25
    · refine cr_iload_n X 1 rfl dX2_lostPower_9 ?_
      refine cr_aload_n X 0 rfl dX2_lostPower_10 ?_
      refine cr_get X ((cr_a0 E hf).at (cr_row S0 f G 0) rfl) rfl i_X2_lostPower_X2 8 (by decide) k_X2_lostPower_1 rfl dX2_lostPower_11 ?_
      refine cr_iload_n X 2 rfl dX2_lostPower_14 ?_
      refine cr_iald X ((cr_a14 E hf).at (cr_row S0 f G 14) rfl) dX2_lostPower_15 ?_
      refine cr_iadd X dX2_lostPower_16 ?_
      refine cr_istore_nb X (fun v17_1 => [(1, .int v17_1), (0, .ref (E.2.1 f 0)), (2, .int x2)]) (fun _ => rfl) (by decide) dX2_lostPower_17 (fun v17_1 => ?_)
      refine cr_iinc X (x2 + 1) (fun v18_2 => [(2, .int v18_2), (1, .int v17_1), (0, .ref (E.2.1 f 0))]) 2 rfl rfl (fun _ => rfl) (by decide) dX2_lostPower_18 (fun v18_2 => ?_)
      refine cr_goto X 4 dX2_lostPower_21 rfl ?_
      refine cr_sub (lv' := [(0, .ref (E.2.1 f 0)), (1, .int v17_1), (2, .int v18_2)]) [2, 1, 0] rfl ?_
      exact ih v17_1 v18_2
set_option maxHeartbeats 4000000 in
set_option maxRecDepth 100000 in
theorem c_X2_lostPower (l : Launch) (E : cr_E) (hEK : cr_EK E) (S0 : cr_S) {f : Nat} (hf : f < 8) (G : cr_G) : cr_M l E yX2_lostPower wsX2_lostPower rm_X2_lostPower [.ref (E.2.1 f 0)] (cr_us S0 f G) (cr_vI (cr_us S0 f G)) (s_X2_lostPower G) := by
  refine cr_enter (cc := cX2_lostPower) (nL := 3) (rt := (some .int)) hEK (by decide) rfl (Nat.le_of_ble_eq_true rfl) (fun Γ hΓ X => ?_)
  subst hΓ
  have X : cr_X Γ E cX2_lostPower 3 RX2 wsX2_lostPower rm_X2_lostPower (some .int) := X
  unfold s_X2_lostPower
  show cr_P Γ E 3 _ 0 0 (cr_us S0 f G) 0 ([(0, .ref (E.2.1 f 0))]) [] _
  refine cr_iconst X (0 : Int32) (by decide) dX2_lostPower_0 ?_
  refine cr_istore_n X ([(1, .int ((0 : Int32))), (0, .ref (E.2.1 f 0))]) rfl (by decide) dX2_lostPower_1 ?_
  refine cr_iconst X (0 : Int32) (by decide) dX2_lostPower_2 ?_
  refine cr_istore_n X ([(2, .int ((0 : Int32))), (1, .int ((0 : Int32))), (0, .ref (E.2.1 f 0))]) rfl (by decide) dX2_lostPower_3 ?_
  refine cr_sub (lv' := [(0, .ref (E.2.1 f 0)), (1, .int ((0 : Int32))), (2, .int ((0 : Int32)))]) [2, 1, 0] rfl ?_
  exact b_X2_lostPower_4 X S0 hf G 1200 ((0 : Int32)) ((0 : Int32))
theorem c_X2_lostPower_S (l : Launch) (E : cr_E) (hEK : cr_EK E) (S : cr_S) {f : Nat} (hf : f < 8) : cr_M l E yX2_lostPower wsX2_lostPower rm_X2_lostPower [.ref (E.2.1 f 0)] S (cr_vI S) (s_X2_lostPower (S.1 f)) := by
  have h := c_X2_lostPower l E hEK S hf (S.1 f)
  rw [cr_us_self] at h
  exact h
theorem k_X2_wonPower_1 : (Cond.fieldLink RX2 17 "CraneCampaign$Farm" "turbineCount" "I") ∈ wsX2_wonPower := List.mem_of_getElem? (i := 1) (by rfl)
theorem k_X2_wonPower_2 : (Cond.fieldLink RX2 11 "CraneCampaign$Farm" "turbines" "[LCraneCampaign$Turbine;") ∈ wsX2_wonPower := List.mem_of_getElem? (i := 2) (by rfl)
theorem k_X2_wonPower_3 : (Cond.fieldLink RX2 105 "CraneCampaign$Turbine" "won" "I") ∈ wsX2_wonPower := List.mem_of_getElem? (i := 3) (by rfl)
theorem i_X2_wonPower_X2 : ∀ w ∈ wsX20, w ∈ wsX2_wonPower := by decide +kernel
theorem i_X2_wonPower_X5 : ∀ w ∈ wsX50, w ∈ wsX2_wonPower := by decide +kernel
abbrev rm_X2_wonPower : Room := { frames := 0, cells := 0, slots := 0, locals := 0 }
set_option maxHeartbeats 4000000 in
set_option maxRecDepth 100000 in
theorem b_X2_wonPower_4 {Γ : cr_C} {E : cr_E} (X : cr_X Γ E cX2_wonPower 3 RX2 wsX2_wonPower rm_X2_wonPower (some .int)) (S0 : cr_S) {f : Nat} (hf : f < 8) (G : cr_G) : ∀ (n : Nat) (x1 : Int32) (x2 : Int32), cr_P Γ E 3 (cr_F Γ E (cr_vI (cr_us S0 f G))) 0 0 (cr_us S0 f G) 4 ([(0, .ref (E.2.1 f 0)), (1, .int x1), (2, .int x2)]) ([]) (s_X2_wonPower_4 G n x1 x2) := by
  have hEK := X.2.2.2.2.2.2.1
  intro n
  induction n with
  | zero => intro x1 x2; exact cr_none
  | succ n ih =>
    intro x1 x2
    rw [s_X2_wonPower_4]
    refine cr_iload_n X 2 rfl dX2_wonPower_4 ?_
    refine cr_aload_n X 0 rfl dX2_wonPower_5 ?_
    refine cr_get X ((cr_a0 E hf).at (cr_row S0 f G 0) rfl) rfl i_X2_wonPower_X2 1 (by decide) k_X2_wonPower_1 rfl dX2_wonPower_6 ?_
    refine cr_icmp_ge X 30 dX2_wonPower_9 rfl ?_ ?_
    · refine cr_iload_n X 1 rfl dX2_wonPower_30 ?_
      exact cr_iret X rfl rfl dX2_wonPower_31
    · refine cr_iload_n X 1 rfl dX2_wonPower_12 ?_
      refine cr_aload_n X 0 rfl dX2_wonPower_13 ?_
      refine cr_get X ((cr_a0 E hf).at (cr_row S0 f G 0) rfl) rfl i_X2_wonPower_X2 0 (by decide) k_X2_wonPower_2 rfl dX2_wonPower_14 ?_
      refine cr_iload_n X 2 rfl dX2_wonPower_17 ?_
      refine cr_aald X 3 rfl ((cr_a1 E hf).at (cr_row S0 f G 1) rfl) dX2_wonPower_18 (fun t18_1 ht18_1 => ?_)
      refine cr_get X ((cr_aT E hf ht18_1).at (cr_row S0 f G (t18_1 + 15)) rfl) rfl i_X2_wonPower_X5 6 (by decide) k_X2_wonPower_3 rfl dX2_wonPower_19 ?_
      refine cr_iadd X dX2_wonPower_22 ?_
      refine cr_istore_nb X (fun v23_2 => [(1, .int v23_2), (0, .ref (E.2.1 f 0)), (2, .int x2)]) (fun _ => rfl) (by decide) dX2_wonPower_23 (fun v23_2 => ?_)
      refine cr_iinc X (x2 + 1) (fun v24_3 => [(2, .int v24_3), (1, .int v23_2), (0, .ref (E.2.1 f 0))]) 2 rfl rfl (fun _ => rfl) (by decide) dX2_wonPower_24 (fun v24_3 => ?_)
      refine cr_goto X 4 dX2_wonPower_27 rfl ?_
      refine cr_sub (lv' := [(0, .ref (E.2.1 f 0)), (1, .int v23_2), (2, .int v24_3)]) [2, 1, 0] rfl ?_
      exact ih v23_2 v24_3
set_option maxHeartbeats 4000000 in
set_option maxRecDepth 100000 in
theorem c_X2_wonPower (l : Launch) (E : cr_E) (hEK : cr_EK E) (S0 : cr_S) {f : Nat} (hf : f < 8) (G : cr_G) : cr_M l E yX2_wonPower wsX2_wonPower rm_X2_wonPower [.ref (E.2.1 f 0)] (cr_us S0 f G) (cr_vI (cr_us S0 f G)) (s_X2_wonPower G) := by
  refine cr_enter (cc := cX2_wonPower) (nL := 3) (rt := (some .int)) hEK (by decide) rfl (Nat.le_of_ble_eq_true rfl) (fun Γ hΓ X => ?_)
  subst hΓ
  have X : cr_X Γ E cX2_wonPower 3 RX2 wsX2_wonPower rm_X2_wonPower (some .int) := X
  unfold s_X2_wonPower
  show cr_P Γ E 3 _ 0 0 (cr_us S0 f G) 0 ([(0, .ref (E.2.1 f 0))]) [] _
  refine cr_iconst X (0 : Int32) (by decide) dX2_wonPower_0 ?_
  refine cr_istore_n X ([(1, .int ((0 : Int32))), (0, .ref (E.2.1 f 0))]) rfl (by decide) dX2_wonPower_1 ?_
  refine cr_iconst X (0 : Int32) (by decide) dX2_wonPower_2 ?_
  refine cr_istore_n X ([(2, .int ((0 : Int32))), (1, .int ((0 : Int32))), (0, .ref (E.2.1 f 0))]) rfl (by decide) dX2_wonPower_3 ?_
  refine cr_sub (lv' := [(0, .ref (E.2.1 f 0)), (1, .int ((0 : Int32))), (2, .int ((0 : Int32)))]) [2, 1, 0] rfl ?_
  exact b_X2_wonPower_4 X S0 hf G 1200 ((0 : Int32)) ((0 : Int32))
theorem c_X2_wonPower_S (l : Launch) (E : cr_E) (hEK : cr_EK E) (S : cr_S) {f : Nat} (hf : f < 8) : cr_M l E yX2_wonPower wsX2_wonPower rm_X2_wonPower [.ref (E.2.1 f 0)] S (cr_vI S) (s_X2_wonPower (S.1 f)) := by
  have h := c_X2_wonPower l E hEK S hf (S.1 f)
  rw [cr_us_self] at h
  exact h
theorem k_X2_outcome_1 : (Cond.fieldLink RX2 38 "CraneCampaign$Farm" "plan" "LCraneCampaign$Plan;") ∈ wsX2_outcome := List.mem_of_getElem? (i := 1) (by rfl)
theorem k_X2_outcome_2 : (Cond.fieldLink RX2 153 "CraneCampaign$Plan" "count" "I") ∈ wsX2_outcome := List.mem_of_getElem? (i := 2) (by rfl)
theorem k_X2_outcome_3 : (Cond.fieldLink RX2 60 "CraneCampaign$Farm" "lostBy" "[I") ∈ wsX2_outcome := List.mem_of_getElem? (i := 3) (by rfl)
theorem i_X2_outcome_X2 : ∀ w ∈ wsX20, w ∈ wsX2_outcome := by decide +kernel
theorem i_X2_outcome_X4 : ∀ w ∈ wsX40, w ∈ wsX2_outcome := by decide +kernel
abbrev rm_X2_outcome : Room := { frames := 1, cells := 0, slots := 0, locals := 22 }
set_option maxHeartbeats 4000000 in
set_option maxRecDepth 100000 in
theorem c_X2_outcome (l : Launch) (E : cr_E) (hEK : cr_EK E) (S0 : cr_S) {f : Nat} (hf : f < 8) (G : cr_G) (p1 : Int32) : cr_M l E yX2_outcome wsX2_outcome rm_X2_outcome [.ref (E.2.1 f 0), .int p1] (cr_us S0 f G) (cr_vI (cr_us S0 f G)) (s_X2_outcome G p1) := by
  refine cr_enter (cc := cX2_outcome) (nL := 2) (rt := (some .int)) hEK (by decide) rfl (Nat.le_of_ble_eq_true rfl) (fun Γ hΓ X => ?_)
  subst hΓ
  have X : cr_X Γ E cX2_outcome 2 RX2 wsX2_outcome rm_X2_outcome (some .int) := X
  unfold s_X2_outcome
  show cr_P Γ E 2 _ 0 0 (cr_us S0 f G) 0 ([(0, .ref (E.2.1 f 0)), (1, .int p1)]) [] _
  refine cr_iload_n X 1 rfl dX2_outcome_0 ?_
  refine cr_ite (fun h1_0 => ?_) (fun n1_0 => ?_)
  · refine cr_tin X 5 32 h1_0 dX2_outcome_1 (by decide) rfl rfl ?_
    refine cr_aload_n X 0 rfl dX2_outcome_32 ?_
    refine cr_callV X (As := []) (rest := []) (c_X2_lostPower Γ.2.1 E hEK S0 hf G) ((cr_a0 E hf).at (cr_row S0 f G 0) rfl) rfl 0 gX2_outcome_X2_lostPower rfl rfl rfl (by decide +kernel) ⟨Nat.le_of_ble_eq_true rfl, Nat.le_of_ble_eq_true rfl⟩ (by decide) rfl rfl (Nat.le_of_ble_eq_true rfl) dX2_outcome_33 (fun r33_1 => ?_)
    show cr_P Γ E 2 _ 0 0 (cr_us S0 f G) 36 ([(0, .ref (E.2.1 f 0)), (1, .int p1)]) ([.int r33_1]) _
    exact cr_iret X rfl rfl dX2_outcome_36
  · refine cr_ite (fun h1_1 => ?_) (fun n1_1 => ?_)
    · refine cr_tin X 6 37 h1_1 dX2_outcome_1 (by decide) rfl rfl ?_
      refine cr_aload_n X 0 rfl dX2_outcome_37 ?_
      refine cr_callV X (As := []) (rest := []) (c_X2_wonPower Γ.2.1 E hEK S0 hf G) ((cr_a0 E hf).at (cr_row S0 f G 0) rfl) rfl 0 gX2_outcome_X2_wonPower rfl rfl rfl (by decide +kernel) ⟨Nat.le_of_ble_eq_true rfl, Nat.le_of_ble_eq_true rfl⟩ (by decide) rfl rfl (Nat.le_of_ble_eq_true rfl) dX2_outcome_38 (fun r38_2 => ?_)
      show cr_P Γ E 2 _ 0 0 (cr_us S0 f G) 41 ([(0, .ref (E.2.1 f 0)), (1, .int p1)]) ([.int r38_2]) _
      exact cr_iret X rfl rfl dX2_outcome_41
    · refine cr_ite (fun h1_2 => ?_) (fun n1_2 => ?_)
      · refine cr_tin X 7 42 h1_2 dX2_outcome_1 (by decide) rfl rfl ?_
        refine cr_aload_n X 0 rfl dX2_outcome_42 ?_
        refine cr_callV X (As := []) (rest := []) (c_X2_faultCount Γ.2.1 E hEK S0 hf G) ((cr_a0 E hf).at (cr_row S0 f G 0) rfl) rfl 0 gX2_outcome_X2_faultCount rfl rfl rfl (by decide +kernel) ⟨Nat.le_of_ble_eq_true rfl, Nat.le_of_ble_eq_true rfl⟩ (by decide) rfl rfl (Nat.le_of_ble_eq_true rfl) dX2_outcome_43 (fun r43_3 => ?_)
        show cr_P Γ E 2 _ 0 0 (cr_us S0 f G) 46 ([(0, .ref (E.2.1 f 0)), (1, .int p1)]) ([.int r43_3]) _
        exact cr_iret X rfl rfl dX2_outcome_46
      · refine cr_ite (fun h1_3 => ?_) (fun n1_3 => ?_)
        · refine cr_tin X 8 47 h1_3 dX2_outcome_1 (by decide) rfl rfl ?_
          refine cr_aload_n X 0 rfl dX2_outcome_47 ?_
          refine cr_get X ((cr_a0 E hf).at (cr_row S0 f G 0) rfl) rfl i_X2_outcome_X2 4 (by decide) k_X2_outcome_1 rfl dX2_outcome_48 ?_
          refine cr_get X ((cr_a8 E hf).at (cr_row S0 f G 8) rfl) rfl i_X2_outcome_X4 1 (by decide) k_X2_outcome_2 rfl dX2_outcome_51 ?_
          exact cr_iret X rfl rfl dX2_outcome_54
        · refine cr_tout X 55 dX2_outcome_1 (by have q0 := lv_neT (a := 5) n1_0 rfl; have q1 := lv_neT (a := 6) n1_1 rfl; have q2 := lv_neT (a := 7) n1_2 rfl; have q3 := lv_neT (a := 8) n1_3 rfl; omega) rfl ?_
          refine cr_iload_n X 1 rfl dX2_outcome_55 ?_
          refine cr_if_lt X 73 dX2_outcome_56 rfl ?_ ?_
          · refine cr_iconst X (0 : Int32) (by decide) dX2_outcome_73 ?_
            exact cr_iret X rfl rfl dX2_outcome_74
          · refine cr_iload_n X 1 rfl dX2_outcome_59 ?_
            refine cr_iconst X (5 : Int32) (by decide) dX2_outcome_60 ?_
            refine cr_icmp_ge X 73 dX2_outcome_61 rfl ?_ ?_
            · refine cr_iconst X (0 : Int32) (by decide) dX2_outcome_73 ?_
              exact cr_iret X rfl rfl dX2_outcome_74
            · refine cr_aload_n X 0 rfl dX2_outcome_64 ?_
              refine cr_get X ((cr_a0 E hf).at (cr_row S0 f G 0) rfl) rfl i_X2_outcome_X2 8 (by decide) k_X2_outcome_3 rfl dX2_outcome_65 ?_
              refine cr_iload_n X 1 rfl dX2_outcome_68 ?_
              refine cr_iald X ((cr_a14 E hf).at (cr_row S0 f G 14) rfl) dX2_outcome_69 ?_
              refine cr_goto X 74 dX2_outcome_70 rfl ?_
              exact cr_iret X rfl rfl dX2_outcome_74
theorem c_X2_outcome_S (l : Launch) (E : cr_E) (hEK : cr_EK E) (S : cr_S) {f : Nat} (hf : f < 8) (p1 : Int32) : cr_M l E yX2_outcome wsX2_outcome rm_X2_outcome [.ref (E.2.1 f 0), .int p1] S (cr_vI S) (s_X2_outcome (S.1 f) p1) := by
  have h := c_X2_outcome l E hEK S hf (S.1 f) p1
  rw [cr_us_self] at h
  exact h
theorem k_X2_windNow_1 : (Cond.fieldLink RX2 52 "CraneCampaign$Farm" "winds" "LCraneCampaign$Winds;") ∈ wsX2_windNow := List.mem_of_getElem? (i := 1) (by rfl)
theorem k_X2_windNow_2 : (Cond.fieldLink RX2 63 "CraneCampaign$Farm" "hour" "I") ∈ wsX2_windNow := List.mem_of_getElem? (i := 2) (by rfl)
theorem i_X2_windNow_X2 : ∀ w ∈ wsX20, w ∈ wsX2_windNow := by decide +kernel
abbrev rm_X2_windNow : Room := { frames := 1, cells := 0, slots := 0, locals := 21 }
set_option maxHeartbeats 4000000 in
set_option maxRecDepth 100000 in
theorem c_X2_windNow (l : Launch) (E : cr_E) (hEK : cr_EK E) (S0 : cr_S) {f : Nat} (hf : f < 8) (G : cr_G) : cr_M l E yX2_windNow wsX2_windNow rm_X2_windNow [.ref (E.2.1 f 0)] (cr_us S0 f G) (cr_vI (cr_us S0 f G)) (s_X2_windNow G) := by
  refine cr_enter (cc := cX2_windNow) (nL := 1) (rt := (some .int)) hEK (by decide) rfl (Nat.le_of_ble_eq_true rfl) (fun Γ hΓ X => ?_)
  subst hΓ
  have X : cr_X Γ E cX2_windNow 1 RX2 wsX2_windNow rm_X2_windNow (some .int) := X
  unfold s_X2_windNow
  show cr_P Γ E 1 _ 0 0 (cr_us S0 f G) 0 ([(0, .ref (E.2.1 f 0))]) [] _
  refine cr_aload_n X 0 rfl dX2_windNow_0 ?_
  refine cr_get X ((cr_a0 E hf).at (cr_row S0 f G 0) rfl) rfl i_X2_windNow_X2 6 (by decide) k_X2_windNow_1 rfl dX2_windNow_1 ?_
  refine cr_aload_n X 0 rfl dX2_windNow_4 ?_
  refine cr_get X ((cr_a0 E hf).at (cr_row S0 f G 0) rfl) rfl i_X2_windNow_X2 9 (by decide) k_X2_windNow_2 rfl dX2_windNow_5 ?_
  refine cr_callV X (As := [.int (((G 0) 9))]) (rest := []) (c_X7_at Γ.2.1 E hEK S0 hf G (((G 0) 9))) ((cr_a11 E hf).at (cr_row S0 f G 11) rfl) rfl 1 gX2_windNow_X7_at rfl rfl rfl (by decide +kernel) ⟨Nat.le_of_ble_eq_true rfl, Nat.le_of_ble_eq_true rfl⟩ (by decide) rfl rfl (Nat.le_of_ble_eq_true rfl) dX2_windNow_8 (fun r8_1 => ?_)
  show cr_P Γ E 1 _ 0 0 (cr_us S0 f G) 11 ([(0, .ref (E.2.1 f 0))]) ([.int r8_1]) _
  exact cr_iret X rfl rfl dX2_windNow_11
theorem c_X2_windNow_S (l : Launch) (E : cr_E) (hEK : cr_EK E) (S : cr_S) {f : Nat} (hf : f < 8) : cr_M l E yX2_windNow wsX2_windNow rm_X2_windNow [.ref (E.2.1 f 0)] S (cr_vI S) (s_X2_windNow (S.1 f)) := by
  have h := c_X2_windNow l E hEK S hf (S.1 f)
  rw [cr_us_self] at h
  exact h
theorem k_X2_serve_1 : (Cond.fieldLink RX2 11 "CraneCampaign$Farm" "turbines" "[LCraneCampaign$Turbine;") ∈ wsX2_serve := List.mem_of_getElem? (i := 1) (by rfl)
theorem k_X2_serve_2 : (Cond.fieldLink RX2 45 "CraneCampaign$Farm" "crane" "LCraneCampaign$Crane;") ∈ wsX2_serve := List.mem_of_getElem? (i := 2) (by rfl)
theorem k_X2_serve_3 : (Cond.fieldLink RX2 210 "CraneCampaign$Crane" "place" "I") ∈ wsX2_serve := List.mem_of_getElem? (i := 3) (by rfl)
theorem k_X2_serve_4 : (Cond.fieldLink RX2 95 "CraneCampaign$Turbine" "place" "I") ∈ wsX2_serve := List.mem_of_getElem? (i := 4) (by rfl)
theorem k_X2_serve_5 : (Cond.fieldLink RX2 31 "CraneCampaign$Farm" "harbour" "LCraneCampaign$Harbour;") ∈ wsX2_serve := List.mem_of_getElem? (i := 5) (by rfl)
theorem k_X2_serve_6 : (Cond.fieldLink RX2 56 "CraneCampaign$Farm" "settings" "[I") ∈ wsX2_serve := List.mem_of_getElem? (i := 6) (by rfl)
theorem i_X2_serve_X1 : ∀ w ∈ wsX10, w ∈ wsX2_serve := by decide +kernel
theorem i_X2_serve_X2 : ∀ w ∈ wsX20, w ∈ wsX2_serve := by decide +kernel
theorem i_X2_serve_X5 : ∀ w ∈ wsX50, w ∈ wsX2_serve := by decide +kernel
abbrev rm_X2_serve : Room := { frames := 2, cells := 0, slots := 0, locals := 50 }
set_option maxHeartbeats 4000000 in
set_option maxRecDepth 100000 in
theorem b_X2_serve_41 {Γ : cr_C} {E : cr_E} (X : cr_X Γ E cX2_serve 3 RX2 wsX2_serve rm_X2_serve (some .int)) (S0 : cr_S) {f : Nat} (hf : f < 8) (x1 : Int32) (t2 : Nat) (ht2 : t2 < 10) (G : cr_G) : cr_P Γ E 3 (cr_F Γ E (cr_vIG S0 f)) 0 0 (cr_us S0 f G) 41 ([(0, .ref (E.2.1 f 0)), (1, .int x1), (2, .ref (E.2.1 f (t2 + 15)))]) ([]) (s_X2_serve_41 x1 t2 G) := by
  have hEK := X.2.2.2.2.2.2.1
  unfold s_X2_serve_41
  refine cr_aload_n X 0 rfl dX2_serve_41 ?_
  refine cr_get X ((cr_a0 E hf).at (cr_row S0 f G 0) rfl) rfl i_X2_serve_X2 5 (by decide) k_X2_serve_2 rfl dX2_serve_42 ?_
  refine cr_iload_n X 1 rfl dX2_serve_45 ?_
  refine cr_aload_n X 2 rfl dX2_serve_46 ?_
  refine cr_get X ((cr_aT E hf ht2).at (cr_row S0 f G (t2 + 15)) rfl) rfl i_X2_serve_X5 0 (by decide) k_X2_serve_4 rfl dX2_serve_47 ?_
  refine cr_aload_n X 0 rfl dX2_serve_50 ?_
  refine cr_aload_n X 0 rfl dX2_serve_51 ?_
  refine cr_get X ((cr_a0 E hf).at (cr_row S0 f G 0) rfl) rfl i_X2_serve_X2 5 (by decide) k_X2_serve_2 rfl dX2_serve_52 ?_
  refine cr_get X ((cr_a10 E hf).at (cr_row S0 f G 10) rfl) rfl i_X2_serve_X1 0 (by decide) k_X2_serve_3 rfl dX2_serve_55 ?_
  refine cr_aload_n X 2 rfl dX2_serve_58 ?_
  refine cr_get X ((cr_aT E hf ht2).at (cr_row S0 f G (t2 + 15)) rfl) rfl i_X2_serve_X5 0 (by decide) k_X2_serve_4 rfl dX2_serve_59 ?_
  refine cr_callV X (As := [.int (((G 10) 0)), .int (((G (t2 + 15)) 0))]) (rest := [.int (((G (t2 + 15)) 0)), .int x1, .ref (E.2.1 f 10)]) (c_X2_hoursBetween Γ.2.1 E hEK S0 hf G (((G 10) 0)) (((G (t2 + 15)) 0))) ((cr_a0 E hf).at (cr_row S0 f G 0) rfl) rfl 2 gX2_serve_X2_hoursBetween rfl rfl rfl (by decide +kernel) ⟨Nat.le_of_ble_eq_true rfl, Nat.le_of_ble_eq_true rfl⟩ (by decide) rfl rfl (Nat.le_of_ble_eq_true rfl) dX2_serve_62 (fun r62_8 => ?_)
  show cr_P Γ E 3 _ 0 0 (cr_us S0 f G) 65 ([(0, .ref (E.2.1 f 0)), (1, .int x1), (2, .ref (E.2.1 f (t2 + 15)))]) ([.int r62_8, .int (((G (t2 + 15)) 0)), .int x1, .ref (E.2.1 f 10)]) _
  refine cr_callV X (As := [.int x1, .int (((G (t2 + 15)) 0)), .int r62_8]) (rest := []) (c_X1_driveTo Γ.2.1 E hEK S0 hf G x1 (((G (t2 + 15)) 0)) r62_8) ((cr_a10 E hf).at (cr_row S0 f G 10) rfl) rfl 3 gX2_serve_X1_driveTo rfl rfl rfl (by decide +kernel) ⟨Nat.le_of_ble_eq_true rfl, Nat.le_of_ble_eq_true rfl⟩ (by decide) rfl rfl (Nat.le_of_ble_eq_true rfl) dX2_serve_65 (fun r65_9 => ?_)
  show cr_P Γ E 3 _ 0 0 (cr_us S0 f r65_9) 68 ([(0, .ref (E.2.1 f 0)), (1, .int x1), (2, .ref (E.2.1 f (t2 + 15)))]) ([]) _
  refine cr_iconst X (1 : Int32) (by decide) dX2_serve_68 ?_
  exact cr_iret X rfl rfl dX2_serve_69
set_option maxHeartbeats 4000000 in
set_option maxRecDepth 100000 in
theorem c_X2_serve (l : Launch) (E : cr_E) (hEK : cr_EK E) (S0 : cr_S) {f : Nat} (hf : f < 8) (G : cr_G) (p1 : Int32) : cr_M l E yX2_serve wsX2_serve rm_X2_serve [.ref (E.2.1 f 0), .int p1] (cr_us S0 f G) (cr_vIG S0 f) (s_X2_serve p1 G) := by
  refine cr_enter (cc := cX2_serve) (nL := 3) (rt := (some .int)) hEK (by decide) rfl (Nat.le_of_ble_eq_true rfl) (fun Γ hΓ X => ?_)
  subst hΓ
  have X : cr_X Γ E cX2_serve 3 RX2 wsX2_serve rm_X2_serve (some .int) := X
  unfold s_X2_serve
  show cr_P Γ E 3 _ 0 0 (cr_us S0 f G) 0 ([(0, .ref (E.2.1 f 0)), (1, .int p1)]) [] _
  refine cr_aload_n X 0 rfl dX2_serve_0 ?_
  refine cr_iload_n X 1 rfl dX2_serve_1 ?_
  refine cr_callV X (As := [.int p1]) (rest := []) (c_X2_hasTurbine Γ.2.1 E hEK S0 hf G p1) ((cr_a0 E hf).at (cr_row S0 f G 0) rfl) rfl 1 gX2_serve_X2_hasTurbine rfl rfl rfl (by decide +kernel) ⟨Nat.le_of_ble_eq_true rfl, Nat.le_of_ble_eq_true rfl⟩ (by decide) rfl rfl (Nat.le_of_ble_eq_true rfl) dX2_serve_2 (fun r2_1 => ?_)
  show cr_P Γ E 3 _ 0 0 (cr_us S0 f G) 5 ([(0, .ref (E.2.1 f 0)), (1, .int p1)]) ([.int (cr_b r2_1)]) _
  refine cr_ifb_ne X 10 dX2_serve_5 rfl ?_ ?_
  · refine cr_aload_n X 0 rfl dX2_serve_10 ?_
    refine cr_get X ((cr_a0 E hf).at (cr_row S0 f G 0) rfl) rfl i_X2_serve_X2 0 (by decide) k_X2_serve_1 rfl dX2_serve_11 ?_
    refine cr_iload_n X 1 rfl dX2_serve_14 ?_
    refine cr_aald X 3 rfl ((cr_a1 E hf).at (cr_row S0 f G 1) rfl) dX2_serve_15 (fun t15_2 ht15_2 => ?_)
    refine cr_astore_n X ([(2, .ref (E.2.1 f (t15_2 + 15))), (0, .ref (E.2.1 f 0)), (1, .int p1)]) rfl (by decide) dX2_serve_16 ?_
    refine cr_aload_n X 1 rfl dX2_serve_17 ?_
    refine cr_get X ((cr_a0 E hf).at (cr_row S0 f G 0) rfl) rfl i_X2_serve_X2 5 (by decide) k_X2_serve_2 rfl dX2_serve_18 ?_
    refine cr_callV X (As := []) (rest := []) (c_X1_isOnWay Γ.2.1 E hEK S0 hf G) ((cr_a10 E hf).at (cr_row S0 f G 10) rfl) rfl 0 gX2_serve_X1_isOnWay rfl rfl rfl (by decide +kernel) ⟨Nat.le_of_ble_eq_true rfl, Nat.le_of_ble_eq_true rfl⟩ (by decide) rfl rfl (Nat.le_of_ble_eq_true rfl) dX2_serve_21 (fun r21_3 => ?_)
    show cr_P Γ E 3 _ 0 0 (cr_us S0 f G) 24 ([(2, .ref (E.2.1 f (t15_2 + 15))), (0, .ref (E.2.1 f 0)), (1, .int p1)]) ([.int (cr_b r21_3)]) _
    refine cr_ifb_ne X 41 dX2_serve_24 rfl ?_ ?_
    · refine cr_sub (lv' := [(0, .ref (E.2.1 f 0)), (1, .int p1), (2, .ref (E.2.1 f (t15_2 + 15)))]) [1, 2, 0] rfl ?_
      exact b_X2_serve_41 X S0 hf p1 t15_2 ht15_2 G
    · refine cr_aload_n X 1 rfl dX2_serve_27 ?_
      refine cr_get X ((cr_a0 E hf).at (cr_row S0 f G 0) rfl) rfl i_X2_serve_X2 5 (by decide) k_X2_serve_2 rfl dX2_serve_28 ?_
      refine cr_get X ((cr_a10 E hf).at (cr_row S0 f G 10) rfl) rfl i_X2_serve_X1 0 (by decide) k_X2_serve_3 rfl dX2_serve_31 ?_
      refine cr_aload_n X 0 rfl dX2_serve_34 ?_
      refine cr_get X ((cr_aT E hf ht15_2).at (cr_row S0 f G (t15_2 + 15)) rfl) rfl i_X2_serve_X5 0 (by decide) k_X2_serve_4 rfl dX2_serve_35 ?_
      refine cr_icmp_eq X 70 dX2_serve_38 rfl ?_ ?_
      · refine cr_aload_n X 1 rfl dX2_serve_70 ?_
        refine cr_get X ((cr_a0 E hf).at (cr_row S0 f G 0) rfl) rfl i_X2_serve_X2 3 (by decide) k_X2_serve_5 rfl dX2_serve_71 ?_
        refine cr_iload_n X 2 rfl dX2_serve_74 ?_
        refine cr_callV X (As := [.int p1]) (rest := []) (c_X3_unloadedFor Γ.2.1 E hEK S0 hf G p1) ((cr_a5 E hf).at (cr_row S0 f G 5) rfl) rfl 1 gX2_serve_X3_unloadedFor rfl rfl rfl (by decide +kernel) ⟨Nat.le_of_ble_eq_true rfl, Nat.le_of_ble_eq_true rfl⟩ (by decide) rfl rfl (Nat.le_of_ble_eq_true rfl) dX2_serve_75 (fun r75_4 => ?_)
        show cr_P Γ E 3 _ 0 0 (cr_us S0 f G) 78 ([(2, .ref (E.2.1 f (t15_2 + 15))), (0, .ref (E.2.1 f 0)), (1, .int p1)]) ([.int r75_4]) _
        refine cr_if_ne X 83 dX2_serve_78 rfl ?_ ?_
        · refine cr_aload_n X 1 rfl dX2_serve_83 ?_
          refine cr_callV X (As := []) (rest := []) (c_X2_windNow Γ.2.1 E hEK S0 hf G) ((cr_a0 E hf).at (cr_row S0 f G 0) rfl) rfl 0 gX2_serve_X2_windNow rfl rfl rfl (by decide +kernel) ⟨Nat.le_of_ble_eq_true rfl, Nat.le_of_ble_eq_true rfl⟩ (by decide) rfl rfl (Nat.le_of_ble_eq_true rfl) dX2_serve_84 (fun r84_5 => ?_)
          show cr_P Γ E 3 _ 0 0 (cr_us S0 f G) 87 ([(2, .ref (E.2.1 f (t15_2 + 15))), (0, .ref (E.2.1 f 0)), (1, .int p1)]) ([.int r84_5]) _
          refine cr_aload_n X 0 rfl dX2_serve_87 ?_
          refine cr_aload_n X 1 rfl dX2_serve_88 ?_
          refine cr_get X ((cr_a0 E hf).at (cr_row S0 f G 0) rfl) rfl i_X2_serve_X2 7 (by decide) k_X2_serve_6 rfl dX2_serve_89 ?_
          refine cr_iconst X (0 : Int32) (by decide) dX2_serve_92 ?_
          refine cr_ialdk X 0 (by decide) (by decide) ((cr_a13 E hf).at (cr_row S0 f G 13) rfl) dX2_serve_93 ?_
          refine cr_callV X (As := [.int (((G 13) 0))]) (rest := [.int r84_5]) (c_X5_limit Γ.2.1 E hEK S0 hf ht15_2 G (((G 13) 0))) ((cr_aT E hf ht15_2).at (cr_row S0 f G (t15_2 + 15)) rfl) rfl 1 gX2_serve_X5_limit rfl rfl rfl (by decide +kernel) ⟨Nat.le_of_ble_eq_true rfl, Nat.le_of_ble_eq_true rfl⟩ (by decide) rfl rfl (Nat.le_of_ble_eq_true rfl) dX2_serve_94 (fun r94_6 => ?_)
          show cr_P Γ E 3 _ 0 0 (cr_us S0 f G) 97 ([(2, .ref (E.2.1 f (t15_2 + 15))), (0, .ref (E.2.1 f 0)), (1, .int p1)]) ([.int r94_6, .int r84_5]) _
          refine cr_icmp_le X 102 dX2_serve_97 rfl ?_ ?_
          · refine cr_aload_n X 1 rfl dX2_serve_102 ?_
            refine cr_get X ((cr_a0 E hf).at (cr_row S0 f G 0) rfl) rfl i_X2_serve_X2 5 (by decide) k_X2_serve_2 rfl dX2_serve_103 ?_
            refine cr_iload_n X 2 rfl dX2_serve_106 ?_
            refine cr_callV X (As := [.int p1]) (rest := []) (c_X1_workAnHourOn Γ.2.1 E hEK S0 hf G p1) ((cr_a10 E hf).at (cr_row S0 f G 10) rfl) rfl 1 gX2_serve_X1_workAnHourOn rfl rfl rfl (by decide +kernel) ⟨Nat.le_of_ble_eq_true rfl, Nat.le_of_ble_eq_true rfl⟩ (by decide) rfl rfl (Nat.le_of_ble_eq_true rfl) dX2_serve_107 (fun r107_7 => ?_)
            show cr_P Γ E 3 _ 0 0 (cr_us S0 f r107_7) 110 ([(2, .ref (E.2.1 f (t15_2 + 15))), (0, .ref (E.2.1 f 0)), (1, .int p1)]) ([]) _
            refine cr_iconst X (4 : Int32) (by decide) dX2_serve_110 ?_
            exact cr_iret X rfl rfl dX2_serve_111
          · refine cr_iconst X (3 : Int32) (by decide) dX2_serve_100 ?_
            exact cr_iret X rfl rfl dX2_serve_101
        · refine cr_iconst X (2 : Int32) (by decide) dX2_serve_81 ?_
          exact cr_iret X rfl rfl dX2_serve_82
      · refine cr_sub (lv' := [(0, .ref (E.2.1 f 0)), (1, .int p1), (2, .ref (E.2.1 f (t15_2 + 15)))]) [1, 2, 0] rfl ?_
        exact b_X2_serve_41 X S0 hf p1 t15_2 ht15_2 G
  · refine cr_iconst X (0 : Int32) (by decide) dX2_serve_8 ?_
    exact cr_iret X rfl rfl dX2_serve_9
theorem c_X2_serve_S (l : Launch) (E : cr_E) (hEK : cr_EK E) (S : cr_S) {f : Nat} (hf : f < 8) (p1 : Int32) : cr_M l E yX2_serve wsX2_serve rm_X2_serve [.ref (E.2.1 f 0), .int p1] S (cr_vIG S f) (s_X2_serve  p1 (S.1 f)) := by
  have h := c_X2_serve l E hEK S hf (S.1 f) p1
  rw [cr_us_self] at h
  exact h
theorem k_X2_sharePower_1 : (Cond.fieldLink RX2 17 "CraneCampaign$Farm" "turbineCount" "I") ∈ wsX2_sharePower := List.mem_of_getElem? (i := 1) (by rfl)
theorem k_X2_sharePower_2 : (Cond.fieldLink RX2 11 "CraneCampaign$Farm" "turbines" "[LCraneCampaign$Turbine;") ∈ wsX2_sharePower := List.mem_of_getElem? (i := 2) (by rfl)
theorem k_X2_sharePower_3 : (Cond.fieldLink RX2 102 "CraneCampaign$Turbine" "fault" "I") ∈ wsX2_sharePower := List.mem_of_getElem? (i := 3) (by rfl)
theorem k_X2_sharePower_4 : (Cond.fieldLink RX2 134 "CraneCampaign$Turbine" "lost" "I") ∈ wsX2_sharePower := List.mem_of_getElem? (i := 4) (by rfl)
theorem k_X2_sharePower_5 : (Cond.fieldLink RX2 105 "CraneCampaign$Turbine" "won" "I") ∈ wsX2_sharePower := List.mem_of_getElem? (i := 5) (by rfl)
theorem k_X2_sharePower_6 : (Cond.fieldLink RX2 60 "CraneCampaign$Farm" "lostBy" "[I") ∈ wsX2_sharePower := List.mem_of_getElem? (i := 6) (by rfl)
theorem i_X2_sharePower_X2 : ∀ w ∈ wsX20, w ∈ wsX2_sharePower := by decide +kernel
theorem i_X2_sharePower_X5 : ∀ w ∈ wsX50, w ∈ wsX2_sharePower := by decide +kernel
abbrev rm_X2_sharePower : Room := { frames := 2, cells := 0, slots := 0, locals := 45 }
set_option maxHeartbeats 4000000 in
set_option maxRecDepth 100000 in
theorem b_X2_sharePower_72 {Γ : cr_C} {E : cr_E} (X : cr_X Γ E cX2_sharePower 9 RX2 wsX2_sharePower rm_X2_sharePower (some .int)) (S0 : cr_S) {f : Nat} (hf : f < 8) (k11 : Int32 → Int32 → Int32 → Int32 → Int32 → cr_G → Option (Int32 × cr_G)) (hk11 : ∀ (x1 : Int32) (x2 : Int32) (x3 : Int32) (x4 : Int32) (x5 : Int32) (G : cr_G), cr_P Γ E 9 (cr_F Γ E (cr_vIG S0 f)) 0 0 (cr_us S0 f G) 11 ([(0, .ref (E.2.1 f 0)), (1, .int x1), (2, .int x2), (3, .int x3), (4, .int x4), (5, .int x5)]) [] (k11 x1 x2 x3 x4 x5 G)) (x1 : Int32) (x2 : Int32) (x3 : Int32) (x4 : Int32) (x5 : Int32) (x6 : Int32) (x7 : Int32) (y0 : Int32) (G : cr_G) : cr_P Γ E 9 (cr_F Γ E (cr_vIG S0 f)) 0 0 (cr_us S0 f G) 72 ([(0, .ref (E.2.1 f 0)), (1, .int x1), (2, .int x2), (3, .int x3), (4, .int x4), (5, .int x5), (6, .int x6), (7, .int x7)]) ([.int y0]) (s_X2_sharePower_72 k11 x1 x2 x3 x4 x5 x6 x7 y0 G) := by
  have hEK := X.2.2.2.2.2.2.1
  unfold s_X2_sharePower_72
  refine cr_istore X ([(8, .int y0), (0, .ref (E.2.1 f 0)), (1, .int x1), (2, .int x2), (3, .int x3), (4, .int x4), (5, .int x5), (6, .int x6), (7, .int x7)]) rfl (by decide) dX2_sharePower_72 ?_
  refine cr_aload_n X 1 rfl dX2_sharePower_74 ?_
  refine cr_get X ((cr_a0 E hf).at (cr_row S0 f G 0) rfl) rfl i_X2_sharePower_X2 0 (by decide) k_X2_sharePower_2 rfl dX2_sharePower_75 ?_
  refine cr_iload X 6 rfl dX2_sharePower_78 ?_
  refine cr_aald X 3 rfl ((cr_a1 E hf).at (cr_row S0 f G 1) rfl) dX2_sharePower_80 (fun t80_5 ht80_5 => ?_)
  refine cr_dup X rfl dX2_sharePower_81 ?_
  refine cr_get X ((cr_aT E hf ht80_5).at (cr_row S0 f G (t80_5 + 15)) rfl) rfl i_X2_sharePower_X5 5 (by decide) k_X2_sharePower_4 rfl dX2_sharePower_82 ?_
  refine cr_iload X 0 rfl dX2_sharePower_85 ?_
  refine cr_iadd X dX2_sharePower_87 ?_
  refine cr_putG X (cr_aT E hf ht80_5) 5 rfl rfl rfl i_X2_sharePower_X5 tyX5 tyX5_ok nmX5 (by decide) k_X2_sharePower_4 rfl rfl rfl (Nat.le_of_ble_eq_true rfl) dX2_sharePower_88 (fun G88_6 => ?_)
  refine cr_aload_n X 1 rfl dX2_sharePower_91 ?_
  refine cr_get X ((cr_a0 E hf).at (cr_row S0 f G88_6 0) rfl) rfl i_X2_sharePower_X2 0 (by decide) k_X2_sharePower_2 rfl dX2_sharePower_92 ?_
  refine cr_iload X 6 rfl dX2_sharePower_95 ?_
  refine cr_aald X 3 rfl ((cr_a1 E hf).at (cr_row S0 f G88_6 1) rfl) dX2_sharePower_97 (fun t97_7 ht97_7 => ?_)
  refine cr_dup X rfl dX2_sharePower_98 ?_
  refine cr_get X ((cr_aT E hf ht97_7).at (cr_row S0 f G88_6 (t97_7 + 15)) rfl) rfl i_X2_sharePower_X5 6 (by decide) k_X2_sharePower_5 rfl dX2_sharePower_99 ?_
  refine cr_iload X 7 rfl dX2_sharePower_102 ?_
  refine cr_iload X 0 rfl dX2_sharePower_104 ?_
  refine cr_isub X dX2_sharePower_106 ?_
  refine cr_iadd X dX2_sharePower_107 ?_
  refine cr_putG X (cr_aT E hf ht97_7) 6 rfl rfl rfl i_X2_sharePower_X5 tyX5 tyX5_ok nmX5 (by decide) k_X2_sharePower_5 rfl rfl rfl (Nat.le_of_ble_eq_true rfl) dX2_sharePower_108 (fun G108_8 => ?_)
  refine cr_iload X 8 rfl dX2_sharePower_111 ?_
  refine cr_if_lt X 134 dX2_sharePower_113 rfl ?_ ?_
  · refine cr_iload X 5 rfl dX2_sharePower_134 ?_
    refine cr_iload X 0 rfl dX2_sharePower_136 ?_
    refine cr_iadd X dX2_sharePower_138 ?_
    refine cr_istoreb X (fun v139_9 => [(4, .int v139_9), (8, .int y0), (0, .ref (E.2.1 f 0)), (1, .int x1), (2, .int x2), (3, .int x3), (5, .int x5), (6, .int x6), (7, .int x7)]) (fun _ => rfl) (by decide) dX2_sharePower_139 (fun v139_9 => ?_)
    refine cr_iinc X (x5 + 1) (fun v141_10 => [(5, .int v141_10), (4, .int v139_9), (8, .int y0), (0, .ref (E.2.1 f 0)), (1, .int x1), (2, .int x2), (3, .int x3), (6, .int x6), (7, .int x7)]) 6 rfl rfl (fun _ => rfl) (by decide) dX2_sharePower_141 (fun v141_10 => ?_)
    refine cr_goto X 11 dX2_sharePower_144 rfl ?_
    refine cr_sub (lv' := [(0, .ref (E.2.1 f 0)), (1, .int x1), (2, .int x2), (3, .int x3), (4, .int v139_9), (5, .int v141_10)]) [3, 4, 5, 6, 1, 0] rfl ?_
    exact hk11 x1 x2 x3 v139_9 v141_10 G108_8
  · refine cr_iload X 8 rfl dX2_sharePower_116 ?_
    refine cr_iconst X (5 : Int32) (by decide) dX2_sharePower_118 ?_
    refine cr_icmp_ge X 134 dX2_sharePower_119 rfl ?_ ?_
    · refine cr_iload X 5 rfl dX2_sharePower_134 ?_
      refine cr_iload X 0 rfl dX2_sharePower_136 ?_
      refine cr_iadd X dX2_sharePower_138 ?_
      refine cr_istoreb X (fun v139_11 => [(4, .int v139_11), (8, .int y0), (0, .ref (E.2.1 f 0)), (1, .int x1), (2, .int x2), (3, .int x3), (5, .int x5), (6, .int x6), (7, .int x7)]) (fun _ => rfl) (by decide) dX2_sharePower_139 (fun v139_11 => ?_)
      refine cr_iinc X (x5 + 1) (fun v141_12 => [(5, .int v141_12), (4, .int v139_11), (8, .int y0), (0, .ref (E.2.1 f 0)), (1, .int x1), (2, .int x2), (3, .int x3), (6, .int x6), (7, .int x7)]) 6 rfl rfl (fun _ => rfl) (by decide) dX2_sharePower_141 (fun v141_12 => ?_)
      refine cr_goto X 11 dX2_sharePower_144 rfl ?_
      refine cr_sub (lv' := [(0, .ref (E.2.1 f 0)), (1, .int x1), (2, .int x2), (3, .int x3), (4, .int v139_11), (5, .int v141_12)]) [3, 4, 5, 6, 1, 0] rfl ?_
      exact hk11 x1 x2 x3 v139_11 v141_12 G108_8
    · refine cr_aload_n X 1 rfl dX2_sharePower_122 ?_
      refine cr_get X ((cr_a0 E hf).at (cr_row S0 f G108_8 0) rfl) rfl i_X2_sharePower_X2 8 (by decide) k_X2_sharePower_6 rfl dX2_sharePower_123 ?_
      refine cr_iload X 8 rfl dX2_sharePower_126 ?_
      refine cr_dup2 X rfl rfl dX2_sharePower_128 ?_
      refine cr_iald X ((cr_a14 E hf).at (cr_row S0 f G108_8 14) rfl) dX2_sharePower_129 ?_
      refine cr_iload X 0 rfl dX2_sharePower_130 ?_
      refine cr_iadd X dX2_sharePower_132 ?_
      refine cr_iastG X (cr_a14 E hf) (fun _ _ => rfl) dX2_sharePower_133 (fun G133_13 => ?_)
      refine cr_iload X 5 rfl dX2_sharePower_134 ?_
      refine cr_iload X 0 rfl dX2_sharePower_136 ?_
      refine cr_iadd X dX2_sharePower_138 ?_
      refine cr_istoreb X (fun v139_14 => [(4, .int v139_14), (8, .int y0), (0, .ref (E.2.1 f 0)), (1, .int x1), (2, .int x2), (3, .int x3), (5, .int x5), (6, .int x6), (7, .int x7)]) (fun _ => rfl) (by decide) dX2_sharePower_139 (fun v139_14 => ?_)
      refine cr_iinc X (x5 + 1) (fun v141_15 => [(5, .int v141_15), (4, .int v139_14), (8, .int y0), (0, .ref (E.2.1 f 0)), (1, .int x1), (2, .int x2), (3, .int x3), (6, .int x6), (7, .int x7)]) 6 rfl rfl (fun _ => rfl) (by decide) dX2_sharePower_141 (fun v141_15 => ?_)
      refine cr_goto X 11 dX2_sharePower_144 rfl ?_
      refine cr_sub (lv' := [(0, .ref (E.2.1 f 0)), (1, .int x1), (2, .int x2), (3, .int x3), (4, .int v139_14), (5, .int v141_15)]) [3, 4, 5, 6, 1, 0] rfl ?_
      exact hk11 x1 x2 x3 v139_14 v141_15 G133_13
set_option maxHeartbeats 4000000 in
set_option maxRecDepth 100000 in
theorem b_X2_sharePower_44 {Γ : cr_C} {E : cr_E} (X : cr_X Γ E cX2_sharePower 9 RX2 wsX2_sharePower rm_X2_sharePower (some .int)) (S0 : cr_S) {f : Nat} (hf : f < 8) (k11 : Int32 → Int32 → Int32 → Int32 → Int32 → cr_G → Option (Int32 × cr_G)) (hk11 : ∀ (x1 : Int32) (x2 : Int32) (x3 : Int32) (x4 : Int32) (x5 : Int32) (G : cr_G), cr_P Γ E 9 (cr_F Γ E (cr_vIG S0 f)) 0 0 (cr_us S0 f G) 11 ([(0, .ref (E.2.1 f 0)), (1, .int x1), (2, .int x2), (3, .int x3), (4, .int x4), (5, .int x5)]) [] (k11 x1 x2 x3 x4 x5 G)) (x1 : Int32) (x2 : Int32) (x3 : Int32) (x4 : Int32) (x5 : Int32) (x6 : Int32) (y0 : Int32) (G : cr_G) : cr_P Γ E 9 (cr_F Γ E (cr_vIG S0 f)) 0 0 (cr_us S0 f G) 44 ([(0, .ref (E.2.1 f 0)), (1, .int x1), (2, .int x2), (3, .int x3), (4, .int x4), (5, .int x5), (6, .int x6)]) ([.int y0]) (s_X2_sharePower_44 k11 x1 x2 x3 x4 x5 x6 y0 G) := by
  have hEK := X.2.2.2.2.2.2.1
  unfold s_X2_sharePower_44
  refine cr_istore X ([(7, .int y0), (0, .ref (E.2.1 f 0)), (1, .int x1), (2, .int x2), (3, .int x3), (4, .int x4), (5, .int x5), (6, .int x6)]) rfl (by decide) dX2_sharePower_44 ?_
  refine cr_iload X 0 rfl dX2_sharePower_46 ?_
  refine cr_iconst X (4 : Int32) (by decide) dX2_sharePower_48 ?_
  refine cr_icmp_ne X 57 dX2_sharePower_49 rfl ?_ ?_
  · refine cr_iload X 7 rfl dX2_sharePower_57 ?_
    refine cr_aload_n X 1 rfl dX2_sharePower_59 ?_
    refine cr_get X ((cr_a0 E hf).at (cr_row S0 f G 0) rfl) rfl i_X2_sharePower_X2 0 (by decide) k_X2_sharePower_2 rfl dX2_sharePower_60 ?_
    refine cr_iload X 6 rfl dX2_sharePower_63 ?_
    refine cr_aald X 3 rfl ((cr_a1 E hf).at (cr_row S0 f G 1) rfl) dX2_sharePower_65 (fun t65_4 ht65_4 => ?_)
    refine cr_get X ((cr_aT E hf ht65_4).at (cr_row S0 f G (t65_4 + 15)) rfl) rfl i_X2_sharePower_X5 3 (by decide) k_X2_sharePower_3 rfl dX2_sharePower_66 ?_
    refine cr_imul X dX2_sharePower_69 ?_
    refine cr_iconst X (4 : Int32) (by decide) dX2_sharePower_70 ?_
    refine cr_idivk X (by decide) dX2_sharePower_71 ?_
    refine cr_sub (lv' := [(0, .ref (E.2.1 f 0)), (1, .int x1), (2, .int x2), (3, .int x3), (4, .int x4), (5, .int x5), (6, .int x6), (7, .int y0)]) [1, 2, 3, 4, 5, 6, 7, 0] rfl ?_
    exact b_X2_sharePower_72 X S0 hf k11 hk11 x1 x2 x3 x4 x5 x6 y0 (((x6 * ((G (t65_4 + 15)) 3)) / (4 : Int32))) G
  · refine cr_iload X 7 rfl dX2_sharePower_52 ?_
    refine cr_goto X 72 dX2_sharePower_54 rfl ?_
    refine cr_sub (lv' := [(0, .ref (E.2.1 f 0)), (1, .int x1), (2, .int x2), (3, .int x3), (4, .int x4), (5, .int x5), (6, .int x6), (7, .int y0)]) [1, 2, 3, 4, 5, 6, 7, 0] rfl ?_
    exact b_X2_sharePower_72 X S0 hf k11 hk11 x1 x2 x3 x4 x5 x6 y0 x6 G
set_option maxHeartbeats 4000000 in
set_option maxRecDepth 100000 in
theorem b_X2_sharePower_11 {Γ : cr_C} {E : cr_E} (X : cr_X Γ E cX2_sharePower 9 RX2 wsX2_sharePower rm_X2_sharePower (some .int)) (S0 : cr_S) {f : Nat} (hf : f < 8) : ∀ (n : Nat) (x1 : Int32) (x2 : Int32) (x3 : Int32) (x4 : Int32) (x5 : Int32) (G : cr_G), cr_P Γ E 9 (cr_F Γ E (cr_vIG S0 f)) 0 0 (cr_us S0 f G) 11 ([(0, .ref (E.2.1 f 0)), (1, .int x1), (2, .int x2), (3, .int x3), (4, .int x4), (5, .int x5)]) ([]) (s_X2_sharePower_11 n x1 x2 x3 x4 x5 G) := by
  have hEK := X.2.2.2.2.2.2.1
  intro n
  induction n with
  | zero => intro x1 x2 x3 x4 x5 G; exact cr_none
  | succ n ih =>
    intro x1 x2 x3 x4 x5 G
    rw [s_X2_sharePower_11]
    refine cr_iload X 5 rfl dX2_sharePower_11 ?_
    refine cr_aload_n X 0 rfl dX2_sharePower_13 ?_
    refine cr_get X ((cr_a0 E hf).at (cr_row S0 f G 0) rfl) rfl i_X2_sharePower_X2 1 (by decide) k_X2_sharePower_1 rfl dX2_sharePower_14 ?_
    refine cr_icmp_ge X 147 dX2_sharePower_17 rfl ?_ ?_
    · refine cr_iload X 4 rfl dX2_sharePower_147 ?_
      exact cr_iret X rfl rfl dX2_sharePower_149
    · refine cr_aload_n X 0 rfl dX2_sharePower_20 ?_
      refine cr_get X ((cr_a0 E hf).at (cr_row S0 f G 0) rfl) rfl i_X2_sharePower_X2 0 (by decide) k_X2_sharePower_2 rfl dX2_sharePower_21 ?_
      refine cr_iload X 5 rfl dX2_sharePower_24 ?_
      refine cr_aald X 3 rfl ((cr_a1 E hf).at (cr_row S0 f G 1) rfl) dX2_sharePower_26 (fun t26_2 ht26_2 => ?_)
      refine cr_iload_n X 3 rfl dX2_sharePower_27 ?_
      refine cr_callV X (As := [.int x3]) (rest := []) (c_X5_fullPower Γ.2.1 E hEK S0 hf ht26_2 G x3) ((cr_aT E hf ht26_2).at (cr_row S0 f G (t26_2 + 15)) rfl) rfl 1 gX2_sharePower_X5_fullPower rfl rfl rfl (by decide +kernel) ⟨Nat.le_of_ble_eq_true rfl, Nat.le_of_ble_eq_true rfl⟩ (by decide) rfl rfl (Nat.le_of_ble_eq_true rfl) dX2_sharePower_28 (fun r28_3 => ?_)
      show cr_P Γ E 9 _ 0 0 (cr_us S0 f G) 31 ([(0, .ref (E.2.1 f 0)), (1, .int x1), (2, .int x2), (3, .int x3), (4, .int x4), (5, .int x5)]) ([.int r28_3]) _
      refine cr_istore X ([(6, .int r28_3), (0, .ref (E.2.1 f 0)), (1, .int x1), (2, .int x2), (3, .int x3), (4, .int x4), (5, .int x5)]) rfl (by decide) dX2_sharePower_31 ?_
      refine cr_iload X 6 rfl dX2_sharePower_33 ?_
      refine cr_iload_n X 2 rfl dX2_sharePower_35 ?_
      refine cr_icmp_ne X 43 dX2_sharePower_36 rfl ?_ ?_
      · refine cr_iconst X (0 : Int32) (by decide) dX2_sharePower_43 ?_
        refine cr_sub (lv' := [(0, .ref (E.2.1 f 0)), (1, .int x1), (2, .int x2), (3, .int x3), (4, .int x4), (5, .int x5), (6, .int r28_3)]) [1, 2, 3, 4, 5, 6, 0] rfl ?_
        exact b_X2_sharePower_44 X S0 hf (fun x1a x2a x3a x4a x5a Ga => s_X2_sharePower_11 n x1a x2a x3a x4a x5a Ga) ih x1 x2 x3 x4 x5 r28_3 ((0 : Int32)) G
      · refine cr_iload_n X 3 rfl dX2_sharePower_39 ?_
        refine cr_goto X 44 dX2_sharePower_40 rfl ?_
        refine cr_sub (lv' := [(0, .ref (E.2.1 f 0)), (1, .int x1), (2, .int x2), (3, .int x3), (4, .int x4), (5, .int x5), (6, .int r28_3)]) [1, 2, 3, 4, 5, 6, 0] rfl ?_
        exact b_X2_sharePower_44 X S0 hf (fun x1a x2a x3a x4a x5a Ga => s_X2_sharePower_11 n x1a x2a x3a x4a x5a Ga) ih x1 x2 x3 x4 x5 r28_3 x2 G
set_option maxHeartbeats 4000000 in
set_option maxRecDepth 100000 in
theorem c_X2_sharePower (l : Launch) (E : cr_E) (hEK : cr_EK E) (S0 : cr_S) {f : Nat} (hf : f < 8) (G : cr_G) (p1 : Int32) (p2 : Int32) : cr_M l E yX2_sharePower wsX2_sharePower rm_X2_sharePower [.ref (E.2.1 f 0), .int p1, .int p2] (cr_us S0 f G) (cr_vIG S0 f) (s_X2_sharePower p1 p2 G) := by
  refine cr_enter (cc := cX2_sharePower) (nL := 9) (rt := (some .int)) hEK (by decide) rfl (Nat.le_of_ble_eq_true rfl) (fun Γ hΓ X => ?_)
  subst hΓ
  have X : cr_X Γ E cX2_sharePower 9 RX2 wsX2_sharePower rm_X2_sharePower (some .int) := X
  unfold s_X2_sharePower
  show cr_P Γ E 9 _ 0 0 (cr_us S0 f G) 0 ([(0, .ref (E.2.1 f 0)), (1, .int p1), (2, .int p2)]) [] _
  refine cr_aload_n X 0 rfl dX2_sharePower_0 ?_
  refine cr_callV X (As := []) (rest := []) (c_X2_windNow Γ.2.1 E hEK S0 hf G) ((cr_a0 E hf).at (cr_row S0 f G 0) rfl) rfl 0 gX2_sharePower_X2_windNow rfl rfl rfl (by decide +kernel) ⟨Nat.le_of_ble_eq_true rfl, Nat.le_of_ble_eq_true rfl⟩ (by decide) rfl rfl (Nat.le_of_ble_eq_true rfl) dX2_sharePower_1 (fun r1_1 => ?_)
  show cr_P Γ E 9 _ 0 0 (cr_us S0 f G) 4 ([(0, .ref (E.2.1 f 0)), (1, .int p1), (2, .int p2)]) ([.int r1_1]) _
  refine cr_istore_n X ([(3, .int r1_1), (0, .ref (E.2.1 f 0)), (1, .int p1), (2, .int p2)]) rfl (by decide) dX2_sharePower_4 ?_
  refine cr_iconst X (0 : Int32) (by decide) dX2_sharePower_5 ?_
  refine cr_istore X ([(4, .int ((0 : Int32))), (3, .int r1_1), (0, .ref (E.2.1 f 0)), (1, .int p1), (2, .int p2)]) rfl (by decide) dX2_sharePower_6 ?_
  refine cr_iconst X (0 : Int32) (by decide) dX2_sharePower_8 ?_
  refine cr_istore X ([(5, .int ((0 : Int32))), (4, .int ((0 : Int32))), (3, .int r1_1), (0, .ref (E.2.1 f 0)), (1, .int p1), (2, .int p2)]) rfl (by decide) dX2_sharePower_9 ?_
  refine cr_sub (lv' := [(0, .ref (E.2.1 f 0)), (1, .int p1), (2, .int p2), (3, .int r1_1), (4, .int ((0 : Int32))), (5, .int ((0 : Int32)))]) [3, 4, 5, 2, 1, 0] rfl ?_
  exact b_X2_sharePower_11 X S0 hf 1200 p1 p2 r1_1 ((0 : Int32)) ((0 : Int32)) G
theorem c_X2_sharePower_S (l : Launch) (E : cr_E) (hEK : cr_EK E) (S : cr_S) {f : Nat} (hf : f < 8) (p1 : Int32) (p2 : Int32) : cr_M l E yX2_sharePower wsX2_sharePower rm_X2_sharePower [.ref (E.2.1 f 0), .int p1, .int p2] S (cr_vIG S f) (s_X2_sharePower  p1 p2 (S.1 f)) := by
  have h := c_X2_sharePower l E hEK S hf (S.1 f) p1 p2
  rw [cr_us_self] at h
  exact h
theorem k_X2_worsen_1 : (Cond.fieldLink RX2 17 "CraneCampaign$Farm" "turbineCount" "I") ∈ wsX2_worsen := List.mem_of_getElem? (i := 1) (by rfl)
theorem k_X2_worsen_2 : (Cond.fieldLink RX2 11 "CraneCampaign$Farm" "turbines" "[LCraneCampaign$Turbine;") ∈ wsX2_worsen := List.mem_of_getElem? (i := 2) (by rfl)
theorem k_X2_worsen_3 : (Cond.fieldLink RX2 56 "CraneCampaign$Farm" "settings" "[I") ∈ wsX2_worsen := List.mem_of_getElem? (i := 3) (by rfl)
theorem i_X2_worsen_X2 : ∀ w ∈ wsX20, w ∈ wsX2_worsen := by decide +kernel
abbrev rm_X2_worsen : Room := { frames := 1, cells := 0, slots := 0, locals := 21 }
set_option maxHeartbeats 4000000 in
set_option maxRecDepth 100000 in
theorem b_X2_worsen_2 {Γ : cr_C} {E : cr_E} (X : cr_X Γ E cX2_worsen 3 RX2 wsX2_worsen rm_X2_worsen none) (S0 : cr_S) {f : Nat} (hf : f < 8) : ∀ (n : Nat) (x1 : Int32) (x2 : Int32) (G : cr_G), cr_P Γ E 3 (cr_F Γ E (cr_vVG S0 f)) 0 0 (cr_us S0 f G) 2 ([(0, .ref (E.2.1 f 0)), (1, .int x1), (2, .int x2)]) ([]) (s_X2_worsen_2 n x1 x2 G) := by
  have hEK := X.2.2.2.2.2.2.1
  intro n
  induction n with
  | zero => intro x1 x2 G; exact cr_none
  | succ n ih =>
    intro x1 x2 G
    rw [s_X2_worsen_2]
    refine cr_iload_n X 2 rfl dX2_worsen_2 ?_
    refine cr_aload_n X 0 rfl dX2_worsen_3 ?_
    refine cr_get X ((cr_a0 E hf).at (cr_row S0 f G 0) rfl) rfl i_X2_worsen_X2 1 (by decide) k_X2_worsen_1 rfl dX2_worsen_4 ?_
    refine cr_icmp_ge X 36 dX2_worsen_7 rfl ?_ ?_
    · exact cr_vret X rfl rfl dX2_worsen_36
    · refine cr_iload_n X 2 rfl dX2_worsen_10 ?_
      refine cr_iload_n X 1 rfl dX2_worsen_11 ?_
      refine cr_icmp_eq X 30 dX2_worsen_12 rfl ?_ ?_
      · refine cr_iinc X (x2 + 1) (fun v30_1 => [(2, .int v30_1), (0, .ref (E.2.1 f 0)), (1, .int x1)]) 2 rfl rfl (fun _ => rfl) (by decide) dX2_worsen_30 (fun v30_1 => ?_)
        refine cr_goto X 2 dX2_worsen_33 rfl ?_
        refine cr_sub (lv' := [(0, .ref (E.2.1 f 0)), (1, .int x1), (2, .int v30_1)]) [1, 2, 0] rfl ?_
        exact ih x1 v30_1 G
      · refine cr_aload_n X 0 rfl dX2_worsen_15 ?_
        refine cr_get X ((cr_a0 E hf).at (cr_row S0 f G 0) rfl) rfl i_X2_worsen_X2 0 (by decide) k_X2_worsen_2 rfl dX2_worsen_16 ?_
        refine cr_iload_n X 2 rfl dX2_worsen_19 ?_
        refine cr_aald X 3 rfl ((cr_a1 E hf).at (cr_row S0 f G 1) rfl) dX2_worsen_20 (fun t20_2 ht20_2 => ?_)
        refine cr_aload_n X 0 rfl dX2_worsen_21 ?_
        refine cr_get X ((cr_a0 E hf).at (cr_row S0 f G 0) rfl) rfl i_X2_worsen_X2 7 (by decide) k_X2_worsen_3 rfl dX2_worsen_22 ?_
        refine cr_iconst X (3 : Int32) (by decide) dX2_worsen_25 ?_
        refine cr_ialdk X 3 (by decide) (by decide) ((cr_a13 E hf).at (cr_row S0 f G 13) rfl) dX2_worsen_26 ?_
        refine cr_callV X (As := [.int (((G 13) 3))]) (rest := []) (c_X5_growOlder Γ.2.1 E hEK S0 hf ht20_2 G (((G 13) 3))) ((cr_aT E hf ht20_2).at (cr_row S0 f G (t20_2 + 15)) rfl) rfl 1 gX2_worsen_X5_growOlder rfl rfl rfl (by decide +kernel) ⟨Nat.le_of_ble_eq_true rfl, Nat.le_of_ble_eq_true rfl⟩ (by decide) rfl rfl (Nat.le_of_ble_eq_true rfl) dX2_worsen_27 (fun r27_3 => ?_)
        show cr_P Γ E 3 _ 0 0 (cr_us S0 f r27_3) 30 ([(0, .ref (E.2.1 f 0)), (1, .int x1), (2, .int x2)]) ([]) _
        refine cr_iinc X (x2 + 1) (fun v30_4 => [(2, .int v30_4), (0, .ref (E.2.1 f 0)), (1, .int x1)]) 2 rfl rfl (fun _ => rfl) (by decide) dX2_worsen_30 (fun v30_4 => ?_)
        refine cr_goto X 2 dX2_worsen_33 rfl ?_
        refine cr_sub (lv' := [(0, .ref (E.2.1 f 0)), (1, .int x1), (2, .int v30_4)]) [1, 2, 0] rfl ?_
        exact ih x1 v30_4 r27_3
set_option maxHeartbeats 4000000 in
set_option maxRecDepth 100000 in
theorem c_X2_worsen (l : Launch) (E : cr_E) (hEK : cr_EK E) (S0 : cr_S) {f : Nat} (hf : f < 8) (G : cr_G) (p1 : Int32) : cr_M l E yX2_worsen wsX2_worsen rm_X2_worsen [.ref (E.2.1 f 0), .int p1] (cr_us S0 f G) (cr_vVG S0 f) (s_X2_worsen p1 G) := by
  refine cr_enter (cc := cX2_worsen) (nL := 3) (rt := none) hEK (by decide) rfl (Nat.le_of_ble_eq_true rfl) (fun Γ hΓ X => ?_)
  subst hΓ
  have X : cr_X Γ E cX2_worsen 3 RX2 wsX2_worsen rm_X2_worsen none := X
  unfold s_X2_worsen
  show cr_P Γ E 3 _ 0 0 (cr_us S0 f G) 0 ([(0, .ref (E.2.1 f 0)), (1, .int p1)]) [] _
  refine cr_iconst X (0 : Int32) (by decide) dX2_worsen_0 ?_
  refine cr_istore_n X ([(2, .int ((0 : Int32))), (0, .ref (E.2.1 f 0)), (1, .int p1)]) rfl (by decide) dX2_worsen_1 ?_
  refine cr_sub (lv' := [(0, .ref (E.2.1 f 0)), (1, .int p1), (2, .int ((0 : Int32)))]) [1, 2, 0] rfl ?_
  exact b_X2_worsen_2 X S0 hf 1200 p1 ((0 : Int32)) G
theorem c_X2_worsen_S (l : Launch) (E : cr_E) (hEK : cr_EK E) (S : cr_S) {f : Nat} (hf : f < 8) (p1 : Int32) : cr_M l E yX2_worsen wsX2_worsen rm_X2_worsen [.ref (E.2.1 f 0), .int p1] S (cr_vVG S f) (s_X2_worsen  p1 (S.1 f)) := by
  have h := c_X2_worsen l E hEK S hf (S.1 f) p1
  rw [cr_us_self] at h
  exact h
theorem k_X2_runHour_1 : (Cond.fieldLink RX2 31 "CraneCampaign$Farm" "harbour" "LCraneCampaign$Harbour;") ∈ wsX2_runHour := List.mem_of_getElem? (i := 1) (by rfl)
theorem k_X2_runHour_2 : (Cond.fieldLink RX2 56 "CraneCampaign$Farm" "settings" "[I") ∈ wsX2_runHour := List.mem_of_getElem? (i := 2) (by rfl)
theorem k_X2_runHour_3 : (Cond.fieldLink RX2 38 "CraneCampaign$Farm" "plan" "LCraneCampaign$Plan;") ∈ wsX2_runHour := List.mem_of_getElem? (i := 3) (by rfl)
theorem k_X2_runHour_4 : (Cond.fieldLink RX2 63 "CraneCampaign$Farm" "hour" "I") ∈ wsX2_runHour := List.mem_of_getElem? (i := 4) (by rfl)
theorem i_X2_runHour_X2 : ∀ w ∈ wsX20, w ∈ wsX2_runHour := by decide +kernel
abbrev rm_X2_runHour : Room := { frames := 3, cells := 0, slots := 0, locals := 73 }
set_option maxHeartbeats 4000000 in
set_option maxRecDepth 100000 in
theorem b_X2_runHour_59 {Γ : cr_C} {E : cr_E} (X : cr_X Γ E cX2_runHour 4 RX2 wsX2_runHour rm_X2_runHour (some .int)) (S0 : cr_S) {f : Nat} (hf : f < 8) (x3 : Int32) (y0 : Int32) (G : cr_G) : cr_P Γ E 4 (cr_F Γ E (cr_vIG S0 f)) 0 0 (cr_us S0 f G) 59 ([(0, .ref (E.2.1 f 0)), (3, .int x3)]) ([.int y0, .ref (E.2.1 f 0)]) (s_X2_runHour_59 x3 y0 G) := by
  have hEK := X.2.2.2.2.2.2.1
  unfold s_X2_runHour_59
  refine cr_callV X (As := [.int y0]) (rest := []) (c_X2_worsen Γ.2.1 E hEK S0 hf G y0) ((cr_a0 E hf).at (cr_row S0 f G 0) rfl) rfl 1 gX2_runHour_X2_worsen rfl rfl rfl (by decide +kernel) ⟨Nat.le_of_ble_eq_true rfl, Nat.le_of_ble_eq_true rfl⟩ (by decide) rfl rfl (Nat.le_of_ble_eq_true rfl) dX2_runHour_59 (fun r59_7 => ?_)
  show cr_P Γ E 4 _ 0 0 (cr_us S0 f r59_7) 62 ([(0, .ref (E.2.1 f 0)), (3, .int x3)]) ([]) _
  refine cr_aload_n X 0 rfl dX2_runHour_62 ?_
  refine cr_dup X rfl dX2_runHour_63 ?_
  refine cr_get X ((cr_a0 E hf).at (cr_row S0 f r59_7 0) rfl) rfl i_X2_runHour_X2 9 (by decide) k_X2_runHour_4 rfl dX2_runHour_64 ?_
  refine cr_iconst X (1 : Int32) (by decide) dX2_runHour_67 ?_
  refine cr_iadd X dX2_runHour_68 ?_
  refine cr_putG X (cr_a0 E hf) 9 rfl rfl rfl i_X2_runHour_X2 tyX2 tyX2_ok nmX2 (by decide) k_X2_runHour_4 rfl rfl rfl (Nat.le_of_ble_eq_true rfl) dX2_runHour_69 (fun G69_8 => ?_)
  refine cr_iload_n X 1 rfl dX2_runHour_72 ?_
  exact cr_iret X rfl rfl dX2_runHour_73
set_option maxHeartbeats 4000000 in
set_option maxRecDepth 100000 in
theorem c_X2_runHour (l : Launch) (E : cr_E) (hEK : cr_EK E) (S0 : cr_S) {f : Nat} (hf : f < 8) (G : cr_G) : cr_M l E yX2_runHour wsX2_runHour rm_X2_runHour [.ref (E.2.1 f 0)] (cr_us S0 f G) (cr_vIG S0 f) (s_X2_runHour G) := by
  refine cr_enter (cc := cX2_runHour) (nL := 4) (rt := (some .int)) hEK (by decide) rfl (Nat.le_of_ble_eq_true rfl) (fun Γ hΓ X => ?_)
  subst hΓ
  have X : cr_X Γ E cX2_runHour 4 RX2 wsX2_runHour rm_X2_runHour (some .int) := X
  unfold s_X2_runHour
  show cr_P Γ E 4 _ 0 0 (cr_us S0 f G) 0 ([(0, .ref (E.2.1 f 0))]) [] _
  refine cr_aload_n X 0 rfl dX2_runHour_0 ?_
  refine cr_get X ((cr_a0 E hf).at (cr_row S0 f G 0) rfl) rfl i_X2_runHour_X2 3 (by decide) k_X2_runHour_1 rfl dX2_runHour_1 ?_
  refine cr_aload_n X 0 rfl dX2_runHour_4 ?_
  refine cr_get X ((cr_a0 E hf).at (cr_row S0 f G 0) rfl) rfl i_X2_runHour_X2 7 (by decide) k_X2_runHour_2 rfl dX2_runHour_5 ?_
  refine cr_iconst X (5 : Int32) (by decide) dX2_runHour_8 ?_
  refine cr_ialdk X 5 (by decide) (by decide) ((cr_a13 E hf).at (cr_row S0 f G 13) rfl) dX2_runHour_9 ?_
  refine cr_callV X (As := [.int (((G 13) 5))]) (rest := []) (c_X3_unload Γ.2.1 E hEK S0 hf G (((G 13) 5))) ((cr_a5 E hf).at (cr_row S0 f G 5) rfl) rfl 1 gX2_runHour_X3_unload rfl rfl rfl (by decide +kernel) ⟨Nat.le_of_ble_eq_true rfl, Nat.le_of_ble_eq_true rfl⟩ (by decide) rfl rfl (Nat.le_of_ble_eq_true rfl) dX2_runHour_10 (fun r10_1 => ?_)
  show cr_P Γ E 4 _ 0 0 (cr_us S0 f r10_1) 13 ([(0, .ref (E.2.1 f 0))]) ([]) _
  refine cr_aload_n X 0 rfl dX2_runHour_13 ?_
  refine cr_callV X (As := []) (rest := []) (c_X2_dropFaultless Γ.2.1 E hEK S0 hf r10_1) ((cr_a0 E hf).at (cr_row S0 f r10_1 0) rfl) rfl 0 gX2_runHour_X2_dropFaultless rfl rfl rfl (by decide +kernel) ⟨Nat.le_of_ble_eq_true rfl, Nat.le_of_ble_eq_true rfl⟩ (by decide) rfl rfl (Nat.le_of_ble_eq_true rfl) dX2_runHour_14 (fun r14_2 => ?_)
  show cr_P Γ E 4 _ 0 0 (cr_us S0 f r14_2) 17 ([(0, .ref (E.2.1 f 0))]) ([]) _
  refine cr_aload_n X 0 rfl dX2_runHour_17 ?_
  refine cr_get X ((cr_a0 E hf).at (cr_row S0 f r14_2 0) rfl) rfl i_X2_runHour_X2 4 (by decide) k_X2_runHour_3 rfl dX2_runHour_18 ?_
  refine cr_callV X (As := []) (rest := []) (c_X4_first Γ.2.1 E hEK S0 hf r14_2) ((cr_a8 E hf).at (cr_row S0 f r14_2 8) rfl) rfl 0 gX2_runHour_X4_first rfl rfl rfl (by decide +kernel) ⟨Nat.le_of_ble_eq_true rfl, Nat.le_of_ble_eq_true rfl⟩ (by decide) rfl rfl (Nat.le_of_ble_eq_true rfl) dX2_runHour_21 (fun r21_3 => ?_)
  show cr_P Γ E 4 _ 0 0 (cr_us S0 f r14_2) 24 ([(0, .ref (E.2.1 f 0))]) ([.int r21_3]) _
  refine cr_istore_n X ([(1, .int r21_3), (0, .ref (E.2.1 f 0))]) rfl (by decide) dX2_runHour_24 ?_
  refine cr_aload_n X 1 rfl dX2_runHour_25 ?_
  refine cr_iload_n X 0 rfl dX2_runHour_26 ?_
  refine cr_callV X (As := [.int r21_3]) (rest := []) (c_X2_serve Γ.2.1 E hEK S0 hf r14_2 r21_3) ((cr_a0 E hf).at (cr_row S0 f r14_2 0) rfl) rfl 1 gX2_runHour_X2_serve rfl rfl rfl (by decide +kernel) ⟨Nat.le_of_ble_eq_true rfl, Nat.le_of_ble_eq_true rfl⟩ (by decide) rfl rfl (Nat.le_of_ble_eq_true rfl) dX2_runHour_27 (fun r27_4 => ?_)
  show cr_P Γ E 4 _ 0 0 (cr_us S0 f r27_4.2) 30 ([(1, .int r21_3), (0, .ref (E.2.1 f 0))]) ([.int r27_4.1]) _
  refine cr_istore_n X ([(2, .int r27_4.1), (1, .int r21_3), (0, .ref (E.2.1 f 0))]) rfl (by decide) dX2_runHour_30 ?_
  refine cr_aload_n X 2 rfl dX2_runHour_31 ?_
  refine cr_iload_n X 1 rfl dX2_runHour_32 ?_
  refine cr_iload_n X 0 rfl dX2_runHour_33 ?_
  refine cr_callV X (As := [.int r21_3, .int r27_4.1]) (rest := []) (c_X2_sharePower Γ.2.1 E hEK S0 hf r27_4.2 r21_3 r27_4.1) ((cr_a0 E hf).at (cr_row S0 f r27_4.2 0) rfl) rfl 2 gX2_runHour_X2_sharePower rfl rfl rfl (by decide +kernel) ⟨Nat.le_of_ble_eq_true rfl, Nat.le_of_ble_eq_true rfl⟩ (by decide) rfl rfl (Nat.le_of_ble_eq_true rfl) dX2_runHour_34 (fun r34_5 => ?_)
  show cr_P Γ E 4 _ 0 0 (cr_us S0 f r34_5.2) 37 ([(2, .int r27_4.1), (1, .int r21_3), (0, .ref (E.2.1 f 0))]) ([.int r34_5.1]) _
  refine cr_istore_n X ([(3, .int r34_5.1), (2, .int r27_4.1), (1, .int r21_3), (0, .ref (E.2.1 f 0))]) rfl (by decide) dX2_runHour_37 ?_
  refine cr_iload_n X 1 rfl dX2_runHour_38 ?_
  refine cr_iconst X (4 : Int32) (by decide) dX2_runHour_39 ?_
  refine cr_icmp_ne X 48 dX2_runHour_40 rfl ?_ ?_
  · refine cr_aload_n X 3 rfl dX2_runHour_48 ?_
    refine cr_iload_n X 1 rfl dX2_runHour_49 ?_
    refine cr_iconst X (4 : Int32) (by decide) dX2_runHour_50 ?_
    refine cr_icmp_ne X 58 dX2_runHour_51 rfl ?_ ?_
    · refine cr_iconst X (-1 : Int32) (by decide) dX2_runHour_58 ?_
      refine cr_sub (lv' := [(0, .ref (E.2.1 f 0)), (3, .int r34_5.1)]) [3, 0] rfl ?_
      exact b_X2_runHour_59 X S0 hf r34_5.1 ((-1 : Int32)) r34_5.2
    · refine cr_iload_n X 2 rfl dX2_runHour_54 ?_
      refine cr_goto X 59 dX2_runHour_55 rfl ?_
      refine cr_sub (lv' := [(0, .ref (E.2.1 f 0)), (3, .int r34_5.1)]) [3, 0] rfl ?_
      exact b_X2_runHour_59 X S0 hf r34_5.1 r21_3 r34_5.2
  · refine cr_aload_n X 3 rfl dX2_runHour_43 ?_
    refine cr_iload_n X 2 rfl dX2_runHour_44 ?_
    refine cr_callV X (As := [.int r21_3]) (rest := []) (c_X2_finishIfDone Γ.2.1 E hEK S0 hf r34_5.2 r21_3) ((cr_a0 E hf).at (cr_row S0 f r34_5.2 0) rfl) rfl 1 gX2_runHour_X2_finishIfDone rfl rfl rfl (by decide +kernel) ⟨Nat.le_of_ble_eq_true rfl, Nat.le_of_ble_eq_true rfl⟩ (by decide) rfl rfl (Nat.le_of_ble_eq_true rfl) dX2_runHour_45 (fun r45_6 => ?_)
    show cr_P Γ E 4 _ 0 0 (cr_us S0 f r45_6) 48 ([(3, .int r34_5.1), (2, .int r27_4.1), (1, .int r21_3), (0, .ref (E.2.1 f 0))]) ([]) _
    refine cr_aload_n X 3 rfl dX2_runHour_48 ?_
    refine cr_iload_n X 1 rfl dX2_runHour_49 ?_
    refine cr_iconst X (4 : Int32) (by decide) dX2_runHour_50 ?_
    refine cr_icmp_ne X 58 dX2_runHour_51 rfl ?_ ?_
    · refine cr_iconst X (-1 : Int32) (by decide) dX2_runHour_58 ?_
      refine cr_sub (lv' := [(0, .ref (E.2.1 f 0)), (3, .int r34_5.1)]) [3, 0] rfl ?_
      exact b_X2_runHour_59 X S0 hf r34_5.1 ((-1 : Int32)) r45_6
    · refine cr_iload_n X 2 rfl dX2_runHour_54 ?_
      refine cr_goto X 59 dX2_runHour_55 rfl ?_
      refine cr_sub (lv' := [(0, .ref (E.2.1 f 0)), (3, .int r34_5.1)]) [3, 0] rfl ?_
      exact b_X2_runHour_59 X S0 hf r34_5.1 r21_3 r45_6
theorem c_X2_runHour_S (l : Launch) (E : cr_E) (hEK : cr_EK E) (S : cr_S) {f : Nat} (hf : f < 8) : cr_M l E yX2_runHour wsX2_runHour rm_X2_runHour [.ref (E.2.1 f 0)] S (cr_vIG S f) (s_X2_runHour   (S.1 f)) := by
  have h := c_X2_runHour l E hEK S hf (S.1 f)
  rw [cr_us_self] at h
  exact h
abbrev rm_X2_runHours : Room := { frames := 4, cells := 0, slots := 0, locals := 96 }
set_option maxHeartbeats 4000000 in
set_option maxRecDepth 100000 in
theorem b_X2_runHours_4 {Γ : cr_C} {E : cr_E} (X : cr_X Γ E cX2_runHours 4 RX2 wsX2_runHours rm_X2_runHours (some .int)) (S0 : cr_S) {f : Nat} (hf : f < 8) : ∀ (n : Nat) (x1 : Int32) (x2 : Int32) (x3 : Int32) (G : cr_G), cr_P Γ E 4 (cr_F Γ E (cr_vIG S0 f)) 0 0 (cr_us S0 f G) 4 ([(0, .ref (E.2.1 f 0)), (1, .int x1), (2, .int x2), (3, .int x3)]) ([]) (s_X2_runHours_4 n x1 x2 x3 G) := by
  have hEK := X.2.2.2.2.2.2.1
  intro n
  induction n with
  | zero => intro x1 x2 x3 G; exact cr_none
  | succ n ih =>
    intro x1 x2 x3 G
    rw [s_X2_runHours_4]
    refine cr_iload_n X 3 rfl dX2_runHours_4 ?_
    refine cr_iload_n X 1 rfl dX2_runHours_5 ?_
    refine cr_icmp_ge X 22 dX2_runHours_6 rfl ?_ ?_
    · refine cr_iload_n X 2 rfl dX2_runHours_22 ?_
      exact cr_iret X rfl rfl dX2_runHours_23
    · refine cr_iload_n X 2 rfl dX2_runHours_9 ?_
      refine cr_aload_n X 0 rfl dX2_runHours_10 ?_
      refine cr_callV X (As := []) (rest := [.int x2]) (c_X2_runHour Γ.2.1 E hEK S0 hf G) ((cr_a0 E hf).at (cr_row S0 f G 0) rfl) rfl 0 gX2_runHours_X2_runHour rfl rfl rfl (by decide +kernel) ⟨Nat.le_of_ble_eq_true rfl, Nat.le_of_ble_eq_true rfl⟩ (by decide) rfl rfl (Nat.le_of_ble_eq_true rfl) dX2_runHours_11 (fun r11_1 => ?_)
      show cr_P Γ E 4 _ 0 0 (cr_us S0 f r11_1.2) 14 ([(0, .ref (E.2.1 f 0)), (1, .int x1), (2, .int x2), (3, .int x3)]) ([.int r11_1.1, .int x2]) _
      refine cr_iadd X dX2_runHours_14 ?_
      refine cr_istore_nb X (fun v15_2 => [(2, .int v15_2), (0, .ref (E.2.1 f 0)), (1, .int x1), (3, .int x3)]) (fun _ => rfl) (by decide) dX2_runHours_15 (fun v15_2 => ?_)
      refine cr_iinc X (x3 + 1) (fun v16_3 => [(3, .int v16_3), (2, .int v15_2), (0, .ref (E.2.1 f 0)), (1, .int x1)]) 3 rfl rfl (fun _ => rfl) (by decide) dX2_runHours_16 (fun v16_3 => ?_)
      refine cr_goto X 4 dX2_runHours_19 rfl ?_
      refine cr_sub (lv' := [(0, .ref (E.2.1 f 0)), (1, .int x1), (2, .int v15_2), (3, .int v16_3)]) [2, 3, 1, 0] rfl ?_
      exact ih x1 v15_2 v16_3 r11_1.2
set_option maxHeartbeats 4000000 in
set_option maxRecDepth 100000 in
theorem c_X2_runHours (l : Launch) (E : cr_E) (hEK : cr_EK E) (S0 : cr_S) {f : Nat} (hf : f < 8) (G : cr_G) (p1 : Int32) : cr_M l E yX2_runHours wsX2_runHours rm_X2_runHours [.ref (E.2.1 f 0), .int p1] (cr_us S0 f G) (cr_vIG S0 f) (s_X2_runHours p1 G) := by
  refine cr_enter (cc := cX2_runHours) (nL := 4) (rt := (some .int)) hEK (by decide) rfl (Nat.le_of_ble_eq_true rfl) (fun Γ hΓ X => ?_)
  subst hΓ
  have X : cr_X Γ E cX2_runHours 4 RX2 wsX2_runHours rm_X2_runHours (some .int) := X
  unfold s_X2_runHours
  show cr_P Γ E 4 _ 0 0 (cr_us S0 f G) 0 ([(0, .ref (E.2.1 f 0)), (1, .int p1)]) [] _
  refine cr_iconst X (0 : Int32) (by decide) dX2_runHours_0 ?_
  refine cr_istore_n X ([(2, .int ((0 : Int32))), (0, .ref (E.2.1 f 0)), (1, .int p1)]) rfl (by decide) dX2_runHours_1 ?_
  refine cr_iconst X (0 : Int32) (by decide) dX2_runHours_2 ?_
  refine cr_istore_n X ([(3, .int ((0 : Int32))), (2, .int ((0 : Int32))), (0, .ref (E.2.1 f 0)), (1, .int p1)]) rfl (by decide) dX2_runHours_3 ?_
  refine cr_sub (lv' := [(0, .ref (E.2.1 f 0)), (1, .int p1), (2, .int ((0 : Int32))), (3, .int ((0 : Int32)))]) [2, 3, 1, 0] rfl ?_
  exact b_X2_runHours_4 X S0 hf 1200 p1 ((0 : Int32)) ((0 : Int32)) G
theorem c_X2_runHours_S (l : Launch) (E : cr_E) (hEK : cr_EK E) (S : cr_S) {f : Nat} (hf : f < 8) (p1 : Int32) : cr_M l E yX2_runHours wsX2_runHours rm_X2_runHours [.ref (E.2.1 f 0), .int p1] S (cr_vIG S f) (s_X2_runHours  p1 (S.1 f)) := by
  have h := c_X2_runHours l E hEK S hf (S.1 f) p1
  rw [cr_us_self] at h
  exact h
theorem k_X2_turbineProperty_1 : (Cond.fieldLink RX2 11 "CraneCampaign$Farm" "turbines" "[LCraneCampaign$Turbine;") ∈ wsX2_turbineProperty := List.mem_of_getElem? (i := 1) (by rfl)
theorem k_X2_turbineProperty_2 : (Cond.fieldLink RX2 95 "CraneCampaign$Turbine" "place" "I") ∈ wsX2_turbineProperty := List.mem_of_getElem? (i := 2) (by rfl)
theorem k_X2_turbineProperty_3 : (Cond.fieldLink RX2 116 "CraneCampaign$Turbine" "height" "I") ∈ wsX2_turbineProperty := List.mem_of_getElem? (i := 3) (by rfl)
theorem k_X2_turbineProperty_4 : (Cond.fieldLink RX2 119 "CraneCampaign$Turbine" "rate" "I") ∈ wsX2_turbineProperty := List.mem_of_getElem? (i := 4) (by rfl)
theorem k_X2_turbineProperty_5 : (Cond.fieldLink RX2 102 "CraneCampaign$Turbine" "fault" "I") ∈ wsX2_turbineProperty := List.mem_of_getElem? (i := 5) (by rfl)
theorem k_X2_turbineProperty_6 : (Cond.fieldLink RX2 122 "CraneCampaign$Turbine" "age" "I") ∈ wsX2_turbineProperty := List.mem_of_getElem? (i := 6) (by rfl)
theorem k_X2_turbineProperty_7 : (Cond.fieldLink RX2 56 "CraneCampaign$Farm" "settings" "[I") ∈ wsX2_turbineProperty := List.mem_of_getElem? (i := 7) (by rfl)
theorem k_X2_turbineProperty_8 : (Cond.fieldLink RX2 38 "CraneCampaign$Farm" "plan" "LCraneCampaign$Plan;") ∈ wsX2_turbineProperty := List.mem_of_getElem? (i := 8) (by rfl)
theorem k_X2_turbineProperty_9 : (Cond.fieldLink RX2 31 "CraneCampaign$Farm" "harbour" "LCraneCampaign$Harbour;") ∈ wsX2_turbineProperty := List.mem_of_getElem? (i := 9) (by rfl)
theorem k_X2_turbineProperty_10 : (Cond.fieldLink RX2 134 "CraneCampaign$Turbine" "lost" "I") ∈ wsX2_turbineProperty := List.mem_of_getElem? (i := 10) (by rfl)
theorem k_X2_turbineProperty_11 : (Cond.fieldLink RX2 105 "CraneCampaign$Turbine" "won" "I") ∈ wsX2_turbineProperty := List.mem_of_getElem? (i := 11) (by rfl)
theorem i_X2_turbineProperty_X2 : ∀ w ∈ wsX20, w ∈ wsX2_turbineProperty := by decide +kernel
theorem i_X2_turbineProperty_X5 : ∀ w ∈ wsX50, w ∈ wsX2_turbineProperty := by decide +kernel
abbrev rm_X2_turbineProperty : Room := { frames := 2, cells := 0, slots := 0, locals := 45 }
set_option maxHeartbeats 4000000 in
set_option maxRecDepth 100000 in
theorem c_X2_turbineProperty (l : Launch) (E : cr_E) (hEK : cr_EK E) (S0 : cr_S) {f : Nat} (hf : f < 8) (G : cr_G) (p1 : Int32) (p2 : Int32) : cr_M l E yX2_turbineProperty wsX2_turbineProperty rm_X2_turbineProperty [.ref (E.2.1 f 0), .int p1, .int p2] (cr_us S0 f G) (cr_vI (cr_us S0 f G)) (s_X2_turbineProperty G p1 p2) := by
  refine cr_enter (cc := cX2_turbineProperty) (nL := 4) (rt := (some .int)) hEK (by decide) rfl (Nat.le_of_ble_eq_true rfl) (fun Γ hΓ X => ?_)
  subst hΓ
  have X : cr_X Γ E cX2_turbineProperty 4 RX2 wsX2_turbineProperty rm_X2_turbineProperty (some .int) := X
  unfold s_X2_turbineProperty
  show cr_P Γ E 4 _ 0 0 (cr_us S0 f G) 0 ([(0, .ref (E.2.1 f 0)), (1, .int p1), (2, .int p2)]) [] _
  refine cr_aload_n X 0 rfl dX2_turbineProperty_0 ?_
  refine cr_iload_n X 1 rfl dX2_turbineProperty_1 ?_
  refine cr_callV X (As := [.int p1]) (rest := []) (c_X2_hasTurbine Γ.2.1 E hEK S0 hf G p1) ((cr_a0 E hf).at (cr_row S0 f G 0) rfl) rfl 1 gX2_turbineProperty_X2_hasTurbine rfl rfl rfl (by decide +kernel) ⟨Nat.le_of_ble_eq_true rfl, Nat.le_of_ble_eq_true rfl⟩ (by decide) rfl rfl (Nat.le_of_ble_eq_true rfl) dX2_turbineProperty_2 (fun r2_1 => ?_)
  show cr_P Γ E 4 _ 0 0 (cr_us S0 f G) 5 ([(0, .ref (E.2.1 f 0)), (1, .int p1), (2, .int p2)]) ([.int (cr_b r2_1)]) _
  refine cr_ifb_ne X 10 dX2_turbineProperty_5 rfl ?_ ?_
  · refine cr_aload_n X 0 rfl dX2_turbineProperty_10 ?_
    refine cr_get X ((cr_a0 E hf).at (cr_row S0 f G 0) rfl) rfl i_X2_turbineProperty_X2 0 (by decide) k_X2_turbineProperty_1 rfl dX2_turbineProperty_11 ?_
    refine cr_iload_n X 1 rfl dX2_turbineProperty_14 ?_
    refine cr_aald X 3 rfl ((cr_a1 E hf).at (cr_row S0 f G 1) rfl) dX2_turbineProperty_15 (fun t15_2 ht15_2 => ?_)
    refine cr_astore_n X ([(3, .ref (E.2.1 f (t15_2 + 15))), (0, .ref (E.2.1 f 0)), (1, .int p1), (2, .int p2)]) rfl (by decide) dX2_turbineProperty_16 ?_
    refine cr_iload_n X 3 rfl dX2_turbineProperty_17 ?_
    refine cr_ite (fun h18_0 => ?_) (fun n18_0 => ?_)
    · refine cr_tin X 0 72 h18_0 dX2_turbineProperty_18 (by decide) rfl rfl ?_
      refine cr_aload_n X 0 rfl dX2_turbineProperty_72 ?_
      refine cr_get X ((cr_aT E hf ht15_2).at (cr_row S0 f G (t15_2 + 15)) rfl) rfl i_X2_turbineProperty_X5 0 (by decide) k_X2_turbineProperty_2 rfl dX2_turbineProperty_73 ?_
      exact cr_iret X rfl rfl dX2_turbineProperty_76
    · refine cr_ite (fun h18_1 => ?_) (fun n18_1 => ?_)
      · refine cr_tin X 1 77 h18_1 dX2_turbineProperty_18 (by decide) rfl rfl ?_
        refine cr_aload_n X 0 rfl dX2_turbineProperty_77 ?_
        refine cr_get X ((cr_aT E hf ht15_2).at (cr_row S0 f G (t15_2 + 15)) rfl) rfl i_X2_turbineProperty_X5 1 (by decide) k_X2_turbineProperty_3 rfl dX2_turbineProperty_78 ?_
        exact cr_iret X rfl rfl dX2_turbineProperty_81
      · refine cr_ite (fun h18_2 => ?_) (fun n18_2 => ?_)
        · refine cr_tin X 2 82 h18_2 dX2_turbineProperty_18 (by decide) rfl rfl ?_
          refine cr_aload_n X 0 rfl dX2_turbineProperty_82 ?_
          refine cr_get X ((cr_aT E hf ht15_2).at (cr_row S0 f G (t15_2 + 15)) rfl) rfl i_X2_turbineProperty_X5 2 (by decide) k_X2_turbineProperty_4 rfl dX2_turbineProperty_83 ?_
          exact cr_iret X rfl rfl dX2_turbineProperty_86
        · refine cr_ite (fun h18_3 => ?_) (fun n18_3 => ?_)
          · refine cr_tin X 3 87 h18_3 dX2_turbineProperty_18 (by decide) rfl rfl ?_
            refine cr_aload_n X 0 rfl dX2_turbineProperty_87 ?_
            refine cr_get X ((cr_aT E hf ht15_2).at (cr_row S0 f G (t15_2 + 15)) rfl) rfl i_X2_turbineProperty_X5 3 (by decide) k_X2_turbineProperty_5 rfl dX2_turbineProperty_88 ?_
            exact cr_iret X rfl rfl dX2_turbineProperty_91
          · refine cr_ite (fun h18_4 => ?_) (fun n18_4 => ?_)
            · refine cr_tin X 4 92 h18_4 dX2_turbineProperty_18 (by decide) rfl rfl ?_
              refine cr_aload_n X 0 rfl dX2_turbineProperty_92 ?_
              refine cr_get X ((cr_aT E hf ht15_2).at (cr_row S0 f G (t15_2 + 15)) rfl) rfl i_X2_turbineProperty_X5 4 (by decide) k_X2_turbineProperty_6 rfl dX2_turbineProperty_93 ?_
              exact cr_iret X rfl rfl dX2_turbineProperty_96
            · refine cr_ite (fun h18_5 => ?_) (fun n18_5 => ?_)
              · refine cr_tin X 5 97 h18_5 dX2_turbineProperty_18 (by decide) rfl rfl ?_
                refine cr_aload_n X 0 rfl dX2_turbineProperty_97 ?_
                refine cr_aload_n X 1 rfl dX2_turbineProperty_98 ?_
                refine cr_get X ((cr_a0 E hf).at (cr_row S0 f G 0) rfl) rfl i_X2_turbineProperty_X2 7 (by decide) k_X2_turbineProperty_7 rfl dX2_turbineProperty_99 ?_
                refine cr_iconst X (0 : Int32) (by decide) dX2_turbineProperty_102 ?_
                refine cr_ialdk X 0 (by decide) (by decide) ((cr_a13 E hf).at (cr_row S0 f G 13) rfl) dX2_turbineProperty_103 ?_
                refine cr_callV X (As := [.int (((G 13) 0))]) (rest := []) (c_X5_limit Γ.2.1 E hEK S0 hf ht15_2 G (((G 13) 0))) ((cr_aT E hf ht15_2).at (cr_row S0 f G (t15_2 + 15)) rfl) rfl 1 gX2_turbineProperty_X5_limit rfl rfl rfl (by decide +kernel) ⟨Nat.le_of_ble_eq_true rfl, Nat.le_of_ble_eq_true rfl⟩ (by decide) rfl rfl (Nat.le_of_ble_eq_true rfl) dX2_turbineProperty_104 (fun r104_3 => ?_)
                show cr_P Γ E 4 _ 0 0 (cr_us S0 f G) 107 ([(3, .ref (E.2.1 f (t15_2 + 15))), (0, .ref (E.2.1 f 0)), (1, .int p1), (2, .int p2)]) ([.int r104_3]) _
                exact cr_iret X rfl rfl dX2_turbineProperty_107
              · refine cr_ite (fun h18_6 => ?_) (fun n18_6 => ?_)
                · refine cr_tin X 6 108 h18_6 dX2_turbineProperty_18 (by decide) rfl rfl ?_
                  refine cr_aload_n X 1 rfl dX2_turbineProperty_108 ?_
                  refine cr_get X ((cr_a0 E hf).at (cr_row S0 f G 0) rfl) rfl i_X2_turbineProperty_X2 4 (by decide) k_X2_turbineProperty_8 rfl dX2_turbineProperty_109 ?_
                  refine cr_iload_n X 2 rfl dX2_turbineProperty_112 ?_
                  refine cr_callV X (As := [.int p1]) (rest := []) (c_X4_placeOf Γ.2.1 E hEK S0 hf G p1) ((cr_a8 E hf).at (cr_row S0 f G 8) rfl) rfl 1 gX2_turbineProperty_X4_placeOf rfl rfl rfl (by decide +kernel) ⟨Nat.le_of_ble_eq_true rfl, Nat.le_of_ble_eq_true rfl⟩ (by decide) rfl rfl (Nat.le_of_ble_eq_true rfl) dX2_turbineProperty_113 (fun r113_4 => ?_)
                  show cr_P Γ E 4 _ 0 0 (cr_us S0 f G) 116 ([(3, .ref (E.2.1 f (t15_2 + 15))), (0, .ref (E.2.1 f 0)), (1, .int p1), (2, .int p2)]) ([.int r113_4]) _
                  exact cr_iret X rfl rfl dX2_turbineProperty_116
                · refine cr_ite (fun h18_7 => ?_) (fun n18_7 => ?_)
                  · refine cr_tin X 7 117 h18_7 dX2_turbineProperty_18 (by decide) rfl rfl ?_
                    refine cr_aload_n X 1 rfl dX2_turbineProperty_117 ?_
                    refine cr_get X ((cr_a0 E hf).at (cr_row S0 f G 0) rfl) rfl i_X2_turbineProperty_X2 3 (by decide) k_X2_turbineProperty_9 rfl dX2_turbineProperty_118 ?_
                    refine cr_iload_n X 2 rfl dX2_turbineProperty_121 ?_
                    refine cr_callV X (As := [.int p1]) (rest := []) (c_X3_unloadedFor Γ.2.1 E hEK S0 hf G p1) ((cr_a5 E hf).at (cr_row S0 f G 5) rfl) rfl 1 gX2_turbineProperty_X3_unloadedFor rfl rfl rfl (by decide +kernel) ⟨Nat.le_of_ble_eq_true rfl, Nat.le_of_ble_eq_true rfl⟩ (by decide) rfl rfl (Nat.le_of_ble_eq_true rfl) dX2_turbineProperty_122 (fun r122_5 => ?_)
                    show cr_P Γ E 4 _ 0 0 (cr_us S0 f G) 125 ([(3, .ref (E.2.1 f (t15_2 + 15))), (0, .ref (E.2.1 f 0)), (1, .int p1), (2, .int p2)]) ([.int r122_5]) _
                    exact cr_iret X rfl rfl dX2_turbineProperty_125
                  · refine cr_ite (fun h18_8 => ?_) (fun n18_8 => ?_)
                    · refine cr_tin X 8 126 h18_8 dX2_turbineProperty_18 (by decide) rfl rfl ?_
                      refine cr_aload_n X 0 rfl dX2_turbineProperty_126 ?_
                      refine cr_get X ((cr_aT E hf ht15_2).at (cr_row S0 f G (t15_2 + 15)) rfl) rfl i_X2_turbineProperty_X5 5 (by decide) k_X2_turbineProperty_10 rfl dX2_turbineProperty_127 ?_
                      exact cr_iret X rfl rfl dX2_turbineProperty_130
                    · refine cr_ite (fun h18_9 => ?_) (fun n18_9 => ?_)
                      · refine cr_tin X 9 131 h18_9 dX2_turbineProperty_18 (by decide) rfl rfl ?_
                        refine cr_aload_n X 0 rfl dX2_turbineProperty_131 ?_
                        refine cr_get X ((cr_aT E hf ht15_2).at (cr_row S0 f G (t15_2 + 15)) rfl) rfl i_X2_turbineProperty_X5 6 (by decide) k_X2_turbineProperty_11 rfl dX2_turbineProperty_132 ?_
                        exact cr_iret X rfl rfl dX2_turbineProperty_135
                      · refine cr_tout X 136 dX2_turbineProperty_18 (by have q0 := lv_neT (a := 0) n18_0 rfl; have q1 := lv_neT (a := 1) n18_1 rfl; have q2 := lv_neT (a := 2) n18_2 rfl; have q3 := lv_neT (a := 3) n18_3 rfl; have q4 := lv_neT (a := 4) n18_4 rfl; have q5 := lv_neT (a := 5) n18_5 rfl; have q6 := lv_neT (a := 6) n18_6 rfl; have q7 := lv_neT (a := 7) n18_7 rfl; have q8 := lv_neT (a := 8) n18_8 rfl; have q9 := lv_neT (a := 9) n18_9 rfl; omega) rfl ?_
                        refine cr_aload_n X 0 rfl dX2_turbineProperty_136 ?_
                        refine cr_aload_n X 1 rfl dX2_turbineProperty_137 ?_
                        refine cr_callV X (As := []) (rest := [.ref (E.2.1 f (t15_2 + 15))]) (c_X2_windNow Γ.2.1 E hEK S0 hf G) ((cr_a0 E hf).at (cr_row S0 f G 0) rfl) rfl 0 gX2_turbineProperty_X2_windNow rfl rfl rfl (by decide +kernel) ⟨Nat.le_of_ble_eq_true rfl, Nat.le_of_ble_eq_true rfl⟩ (by decide) rfl rfl (Nat.le_of_ble_eq_true rfl) dX2_turbineProperty_138 (fun r138_6 => ?_)
                        show cr_P Γ E 4 _ 0 0 (cr_us S0 f G) 141 ([(3, .ref (E.2.1 f (t15_2 + 15))), (0, .ref (E.2.1 f 0)), (1, .int p1), (2, .int p2)]) ([.int r138_6, .ref (E.2.1 f (t15_2 + 15))]) _
                        refine cr_callV X (As := [.int r138_6]) (rest := []) (c_X5_fullPower Γ.2.1 E hEK S0 hf ht15_2 G r138_6) ((cr_aT E hf ht15_2).at (cr_row S0 f G (t15_2 + 15)) rfl) rfl 1 gX2_turbineProperty_X5_fullPower rfl rfl rfl (by decide +kernel) ⟨Nat.le_of_ble_eq_true rfl, Nat.le_of_ble_eq_true rfl⟩ (by decide) rfl rfl (Nat.le_of_ble_eq_true rfl) dX2_turbineProperty_141 (fun r141_7 => ?_)
                        show cr_P Γ E 4 _ 0 0 (cr_us S0 f G) 144 ([(3, .ref (E.2.1 f (t15_2 + 15))), (0, .ref (E.2.1 f 0)), (1, .int p1), (2, .int p2)]) ([.int r141_7]) _
                        exact cr_iret X rfl rfl dX2_turbineProperty_144
  · refine cr_iconst X (-1 : Int32) (by decide) dX2_turbineProperty_8 ?_
    exact cr_iret X rfl rfl dX2_turbineProperty_9
theorem c_X2_turbineProperty_S (l : Launch) (E : cr_E) (hEK : cr_EK E) (S : cr_S) {f : Nat} (hf : f < 8) (p1 : Int32) (p2 : Int32) : cr_M l E yX2_turbineProperty wsX2_turbineProperty rm_X2_turbineProperty [.ref (E.2.1 f 0), .int p1, .int p2] S (cr_vI S) (s_X2_turbineProperty (S.1 f) p1 p2) := by
  have h := c_X2_turbineProperty l E hEK S hf (S.1 f) p1 p2
  rw [cr_us_self] at h
  exact h
