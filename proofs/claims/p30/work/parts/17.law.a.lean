abbrev rm_L_abs : Room := { frames := 0, cells := 0, slots := 0, locals := 0 }
set_option maxHeartbeats 4000000 in
set_option maxRecDepth 100000 in
theorem c_L_abs (l : Launch) (E : cr_E) (hEK : cr_EK E) (S : cr_S) (p0 : Int32) : cr_M l E yL_abs wsL_abs rm_L_abs [.int p0] S (cr_vI S) (s_L_abs p0) := by
  refine cr_enter (cc := cL_abs) (nL := 1) (rt := (some .int)) hEK (by decide) rfl (Nat.le_of_ble_eq_true rfl) (fun Γ hΓ X => ?_)
  subst hΓ
  have X : cr_X Γ E cL_abs 1 RL wsL_abs rm_L_abs (some .int) := X
  unfold s_L_abs
  show cr_P Γ E 1 _ 0 0 S 0 ([(0, .int p0)]) [] _
  refine cr_iload_n X 0 rfl dL_abs_0 ?_
  refine cr_if_ge X 9 dL_abs_1 rfl ?_ ?_
  · refine cr_iload_n X 0 rfl dL_abs_9 ?_
    exact cr_iret X rfl rfl dL_abs_10
  · refine cr_iload_n X 0 rfl dL_abs_4 ?_
    refine cr_ineg X dL_abs_5 ?_
    refine cr_goto X 10 dL_abs_6 rfl ?_
    exact cr_iret X rfl rfl dL_abs_10
abbrev rm_L_at : Room := { frames := 0, cells := 0, slots := 0, locals := 0 }
set_option maxHeartbeats 4000000 in
set_option maxRecDepth 100000 in
theorem c_L_at (l : Launch) (E : cr_E) (hEK : cr_EK E) (S : cr_S) (p0 : Int32) (p1 : Int32) : cr_M l E yL_at wsL_at rm_L_at [.int p0, .int p1] S (cr_vI S) (s_L_at p0 p1) := by
  refine cr_enter (cc := cL_at) (nL := 2) (rt := (some .int)) hEK (by decide) rfl (Nat.le_of_ble_eq_true rfl) (fun Γ hΓ X => ?_)
  subst hΓ
  have X : cr_X Γ E cL_at 2 RL wsL_at rm_L_at (some .int) := X
  unfold s_L_at
  show cr_P Γ E 2 _ 0 0 S 0 ([(0, .int p0), (1, .int p1)]) [] _
  refine cr_iload_n X 0 rfl dL_at_0 ?_
  refine cr_iconst X (1 : Int32) (by decide) dL_at_1 ?_
  refine cr_iushr X dL_at_2 ?_
  refine cr_iload_n X 1 rfl dL_at_3 ?_
  refine cr_irem X dL_at_4 ?_
  exact cr_iret X rfl rfl dL_at_5
abbrev rm_L_spot : Room := { frames := 0, cells := 0, slots := 0, locals := 0 }
set_option maxHeartbeats 4000000 in
set_option maxRecDepth 100000 in
theorem b_L_spot_2 {Γ : cr_C} {E : cr_E} (X : cr_X Γ E cL_spot 3 RL wsL_spot rm_L_spot (some .int)) (S0 : cr_S) {f : Nat} (hf : cr_g E f) (G : cr_G) : ∀ (n : Nat) (x0 : Int32) (x2 : Int32), cr_P Γ E 3 (cr_F Γ E (cr_vI (cr_us S0 f G))) 0 0 (cr_us S0 f G) 2 ([(0, .int x0), (1, .ref (E.2.1 f 2)), (2, .int x2)]) ([]) (s_L_spot_2 (S0.1 11) G n x0 x2) := by
  have hEK := X.2.2.2.2.2.2.1
  intro n
  induction n with
  | zero => intro x0 x2; exact cr_none
  | succ n ih =>
    intro x0 x2
    rw [s_L_spot_2]
    refine cr_iload_n X 2 rfl dL_spot_2 ?_
    refine cr_aload_n X 1 rfl dL_spot_3 ?_
    refine cr_iconst X (0 : Int32) (by decide) dL_spot_4 ?_
    refine cr_ialdk X 0 (by decide) (by decide) ((cr_n2 E hf).at (cr_row S0 f G 2) rfl) dL_spot_5 ?_
    refine cr_icmp_ge X 26 dL_spot_6 rfl ?_ ?_
    · refine cr_iconst X (-1 : Int32) (by decide) dL_spot_26 ?_
      exact cr_iret X rfl rfl dL_spot_27
    · refine cr_aload_n X 1 rfl dL_spot_9 ?_
      refine cr_iload_n X 2 rfl dL_spot_10 ?_
      refine cr_iconst X (1 : Int32) (by decide) dL_spot_11 ?_
      refine cr_iadd X dL_spot_12 ?_
      refine cr_iald X ((cr_n2 E hf).at (cr_row S0 f G 2) rfl) dL_spot_13 ?_
      refine cr_iload_n X 0 rfl dL_spot_14 ?_
      refine cr_icmp_ne X 20 dL_spot_15 rfl ?_ ?_
      · refine cr_iinc X (x2 + 1) (fun v20_1 => [(2, .int v20_1), (0, .int x0), (1, .ref (E.2.1 f 2))]) 2 rfl rfl (fun _ => rfl) (by decide) dL_spot_20 (fun v20_1 => ?_)
        refine cr_goto X 2 dL_spot_23 rfl ?_
        refine cr_sub (lv' := [(0, .int x0), (1, .ref (E.2.1 f 2)), (2, .int v20_1)]) [1, 2, 0] rfl ?_
        exact ih x0 v20_1
      · refine cr_iload_n X 2 rfl dL_spot_18 ?_
        exact cr_iret X rfl rfl dL_spot_19
set_option maxHeartbeats 4000000 in
set_option maxRecDepth 100000 in
theorem c_L_spot (l : Launch) (E : cr_E) (hEK : cr_EK E) (S0 : cr_S) {f : Nat} (hf : cr_g E f) (G : cr_G) (p0 : Int32) : cr_M l E yL_spot wsL_spot rm_L_spot [.int p0, .ref (E.2.1 f 2)] (cr_us S0 f G) (cr_vI (cr_us S0 f G)) (s_L_spot (S0.1 11) G p0) := by
  refine cr_enter (cc := cL_spot) (nL := 3) (rt := (some .int)) hEK (by decide) rfl (Nat.le_of_ble_eq_true rfl) (fun Γ hΓ X => ?_)
  subst hΓ
  have X : cr_X Γ E cL_spot 3 RL wsL_spot rm_L_spot (some .int) := X
  unfold s_L_spot
  show cr_P Γ E 3 _ 0 0 (cr_us S0 f G) 0 ([(0, .int p0), (1, .ref (E.2.1 f 2))]) [] _
  refine cr_iconst X (0 : Int32) (by decide) dL_spot_0 ?_
  refine cr_istore_n X ([(2, .int ((0 : Int32))), (0, .int p0), (1, .ref (E.2.1 f 2))]) rfl (by decide) dL_spot_1 ?_
  refine cr_sub (lv' := [(0, .int p0), (1, .ref (E.2.1 f 2)), (2, .int ((0 : Int32)))]) [1, 2, 0] rfl ?_
  exact b_L_spot_2 X S0 hf G 1200 p0 ((0 : Int32))
theorem c_L_spot_S (l : Launch) (E : cr_E) (hEK : cr_EK E) (S : cr_S) {f : Nat} (hf : cr_g E f) (p0 : Int32) : cr_M l E yL_spot wsL_spot rm_L_spot [.int p0, .ref (E.2.1 f 2)] S (cr_vI S) (s_L_spot (S.1 11) (S.1 f) p0) := by
  have h := c_L_spot l E hEK S hf (S.1 f) p0
  rw [cr_us_self] at h
  exact h
abbrev rm_L_off : Room := { frames := 0, cells := 0, slots := 0, locals := 0 }
set_option maxHeartbeats 4000000 in
set_option maxRecDepth 100000 in
theorem b_L_off_4 {Γ : cr_C} {E : cr_E} (X : cr_X Γ E cL_off 3 RL wsL_off rm_L_off none) (S0 : cr_S) {f : Nat} (hf : cr_g E f) : ∀ (n : Nat) (x2 : Int32) (G : cr_G), cr_P Γ E 3 (cr_F Γ E (cr_vVG S0 f)) 0 0 (cr_us S0 f G) 4 ([(1, .ref (E.2.1 f 2)), (2, .int x2)]) ([]) (s_L_off_4 (S0.1 11) n x2 G) := by
  have hEK := X.2.2.2.2.2.2.1
  intro n
  induction n with
  | zero => intro x2 G; exact cr_none
  | succ n ih =>
    intro x2 G
    rw [s_L_off_4]
    refine cr_iload_n X 1 rfl dL_off_4 ?_
    refine cr_aload_n X 0 rfl dL_off_5 ?_
    refine cr_iconst X (0 : Int32) (by decide) dL_off_6 ?_
    refine cr_ialdk X 0 (by decide) (by decide) ((cr_n2 E hf).at (cr_row S0 f G 2) rfl) dL_off_7 ?_
    refine cr_icmp_ge X 25 dL_off_8 rfl ?_ ?_
    · refine cr_aload_n X 0 rfl dL_off_25 ?_
      refine cr_iconst X (0 : Int32) (by decide) dL_off_26 ?_
      refine cr_dup2 X rfl rfl dL_off_27 ?_
      refine cr_ialdk X 0 (by decide) (by decide) ((cr_n2 E hf).at (cr_row S0 f G 2) rfl) dL_off_28 ?_
      refine cr_iconst X (1 : Int32) (by decide) dL_off_29 ?_
      refine cr_isub X dL_off_30 ?_
      refine cr_iastGk X 0 (cr_n2 E hf) (fun _ _ => rfl) (by decide) (by decide) dL_off_31 (fun G31_2 => ?_)
      exact cr_vret X rfl rfl dL_off_32
    · refine cr_aload_n X 0 rfl dL_off_11 ?_
      refine cr_iload_n X 1 rfl dL_off_12 ?_
      refine cr_aload_n X 0 rfl dL_off_13 ?_
      refine cr_iload_n X 1 rfl dL_off_14 ?_
      refine cr_iconst X (1 : Int32) (by decide) dL_off_15 ?_
      refine cr_iadd X dL_off_16 ?_
      refine cr_iald X ((cr_n2 E hf).at (cr_row S0 f G 2) rfl) dL_off_17 ?_
      refine cr_iastG X (cr_n2 E hf) (fun _ _ => rfl) dL_off_18 (fun G18_3 => ?_)
      refine cr_iinc X (x2 + 1) (fun v19_4 => [(2, .int v19_4), (1, .ref (E.2.1 f 2))]) 1 rfl rfl (fun _ => rfl) (by decide) dL_off_19 (fun v19_4 => ?_)
      refine cr_goto X 4 dL_off_22 rfl ?_
      refine cr_sub (lv' := [(1, .ref (E.2.1 f 2)), (2, .int v19_4)]) [1, 0] rfl ?_
      exact ih v19_4 G18_3
set_option maxHeartbeats 4000000 in
set_option maxRecDepth 100000 in
theorem c_L_off (l : Launch) (E : cr_E) (hEK : cr_EK E) (S0 : cr_S) {f : Nat} (hf : cr_g E f) (G : cr_G) (p0 : Int32) : cr_M l E yL_off wsL_off rm_L_off [.int p0, .ref (E.2.1 f 2)] (cr_us S0 f G) (cr_vVG S0 f) (s_L_off (S0.1 11) p0 G) := by
  refine cr_enter (cc := cL_off) (nL := 3) (rt := none) hEK (by decide) rfl (Nat.le_of_ble_eq_true rfl) (fun Γ hΓ X => ?_)
  subst hΓ
  have X : cr_X Γ E cL_off 3 RL wsL_off rm_L_off none := X
  unfold s_L_off
  show cr_P Γ E 3 _ 0 0 (cr_us S0 f G) 0 ([(0, .int p0), (1, .ref (E.2.1 f 2))]) [] _
  refine cr_iload_n X 0 rfl dL_off_0 ?_
  refine cr_iconst X (1 : Int32) (by decide) dL_off_1 ?_
  refine cr_iadd X dL_off_2 ?_
  refine cr_istore_nb X (fun v3_1 => [(2, .int v3_1), (0, .int p0), (1, .ref (E.2.1 f 2))]) (fun _ => rfl) (by decide) dL_off_3 (fun v3_1 => ?_)
  refine cr_sub (lv' := [(1, .ref (E.2.1 f 2)), (2, .int v3_1)]) [2, 0] rfl ?_
  exact b_L_off_4 X S0 hf 1200 v3_1 G
theorem c_L_off_S (l : Launch) (E : cr_E) (hEK : cr_EK E) (S : cr_S) {f : Nat} (hf : cr_g E f) (p0 : Int32) : cr_M l E yL_off wsL_off rm_L_off [.int p0, .ref (E.2.1 f 2)] S (cr_vVG S f) (s_L_off (S.1 11) p0 (S.1 f)) := by
  have h := c_L_off l E hEK S hf (S.1 f) p0
  rw [cr_us_self] at h
  exact h
abbrev rm_L_wind : Room := { frames := 0, cells := 0, slots := 0, locals := 0 }
set_option maxHeartbeats 4000000 in
set_option maxRecDepth 100000 in
theorem c_L_wind (l : Launch) (E : cr_E) (hEK : cr_EK E) (S0 : cr_S) {f : Nat} (hf : cr_g E f) (G : cr_G) (p0 : Int32) : cr_M l E yL_wind wsL_wind rm_L_wind [.int p0, .ref (E.2.1 11 0)] (cr_us S0 f G) (cr_vI (cr_us S0 f G)) (s_L_wind (S0.1 11) G p0) := by
  refine cr_enter (cc := cL_wind) (nL := 2) (rt := (some .int)) hEK (by decide) rfl (Nat.le_of_ble_eq_true rfl) (fun Γ hΓ X => ?_)
  subst hΓ
  have X : cr_X Γ E cL_wind 2 RL wsL_wind rm_L_wind (some .int) := X
  unfold s_L_wind
  show cr_P Γ E 2 _ 0 0 (cr_us S0 f G) 0 ([(0, .int p0), (1, .ref (E.2.1 11 0))]) [] _
  refine cr_aload_n X 1 rfl dL_wind_0 ?_
  refine cr_iconst X (0 : Int32) (by decide) dL_wind_1 ?_
  refine cr_ialdk X 0 (by decide) (by decide) ((cr_k0 E).at (cr_rowo S0 G (cr_gne hf) 0) rfl) dL_wind_2 ?_
  refine cr_if_ne X 11 dL_wind_3 rfl ?_ ?_
  · refine cr_aload_n X 1 rfl dL_wind_11 ?_
    refine cr_iconst X (1 : Int32) (by decide) dL_wind_12 ?_
    refine cr_iload_n X 0 rfl dL_wind_13 ?_
    refine cr_aload_n X 1 rfl dL_wind_14 ?_
    refine cr_iconst X (0 : Int32) (by decide) dL_wind_15 ?_
    refine cr_ialdk X 0 (by decide) (by decide) ((cr_k0 E).at (cr_rowo S0 G (cr_gne hf) 0) rfl) dL_wind_16 ?_
    refine cr_irem X dL_wind_17 ?_
    refine cr_iadd X dL_wind_18 ?_
    refine cr_iald X ((cr_k0 E).at (cr_rowo S0 G (cr_gne hf) 0) rfl) dL_wind_19 ?_
    exact cr_iret X rfl rfl dL_wind_20
  · refine cr_bipush X (8 : Int32) (by decide) dL_wind_6 ?_
    refine cr_goto X 20 dL_wind_8 rfl ?_
    exact cr_iret X rfl rfl dL_wind_20
theorem c_L_wind_S (l : Launch) (E : cr_E) (hEK : cr_EK E) (S : cr_S) {f : Nat} (hf : cr_g E f) (p0 : Int32) : cr_M l E yL_wind wsL_wind rm_L_wind [.int p0, .ref (E.2.1 11 0)] S (cr_vI S) (s_L_wind (S.1 11) (S.1 f) p0) := by
  have h := c_L_wind l E hEK S hf (S.1 f) p0
  rw [cr_us_self] at h
  exact h
abbrev rm_L_way : Room := { frames := 1, cells := 0, slots := 0, locals := 20 }
set_option maxHeartbeats 4000000 in
set_option maxRecDepth 100000 in
theorem b_L_way_33 {Γ : cr_C} {E : cr_E} (X : cr_X Γ E cL_way 7 RL wsL_way rm_L_way (some .int)) (S0 : cr_S) {f : Nat} (hf : cr_g E f) (G : cr_G) : ∀ (n : Nat) (x0 : Int32) (x1 : Int32) (x5 : Int32) (x6 : Int32), cr_P Γ E 7 (cr_F Γ E (cr_vI (cr_us S0 f G))) 0 0 (cr_us S0 f G) 33 ([(0, .int x0), (1, .int x1), (2, .ref (E.2.1 11 1)), (3, .ref (E.2.1 11 2)), (4, .ref (E.2.1 f 3)), (5, .int x5), (6, .int x6)]) ([]) (s_L_way_33 (S0.1 11) G n x0 x1 x5 x6) := by
  have hEK := X.2.2.2.2.2.2.1
  intro n
  induction n with
  | zero => intro x0 x1 x5 x6; exact cr_none
  | succ n ih =>
    intro x0 x1 x5 x6
    rw [s_L_way_33]
    refine cr_iload X 6 rfl dL_way_33 ?_
    refine cr_aload X 4 rfl dL_way_35 ?_
    refine cr_bipush X (8 : Int32) (by decide) dL_way_37 ?_
    refine cr_ialdk X 8 (by decide) (by decide) ((cr_n3 E hf).at (cr_row S0 f G 3) rfl) dL_way_39 ?_
    refine cr_icmp_ge X 92 dL_way_40 rfl ?_ ?_
    · refine cr_iload X 5 rfl dL_way_92 ?_
      exact cr_iret X rfl rfl dL_way_94
    · refine cr_aload_n X 3 rfl dL_way_43 ?_
      refine cr_iconst X (2 : Int32) (by decide) dL_way_44 ?_
      refine cr_iload X 6 rfl dL_way_45 ?_
      refine cr_imul X dL_way_47 ?_
      refine cr_iald X ((cr_k2 E).at (cr_rowo S0 G (cr_gne hf) 2) rfl) dL_way_48 ?_
      refine cr_iload_n X 0 rfl dL_way_49 ?_
      refine cr_isub X dL_way_50 ?_
      refine cr_aload_n X 3 rfl dL_way_51 ?_
      refine cr_iconst X (2 : Int32) (by decide) dL_way_52 ?_
      refine cr_iload X 6 rfl dL_way_53 ?_
      refine cr_imul X dL_way_55 ?_
      refine cr_iald X ((cr_k2 E).at (cr_rowo S0 G (cr_gne hf) 2) rfl) dL_way_56 ?_
      refine cr_iload_n X 1 rfl dL_way_57 ?_
      refine cr_isub X dL_way_58 ?_
      refine cr_imul X dL_way_59 ?_
      refine cr_if_ge X 86 dL_way_60 rfl ?_ ?_
      · refine cr_iinc X (x6 + 1) (fun v86_5 => [(6, .int v86_5), (0, .int x0), (1, .int x1), (2, .ref (E.2.1 11 1)), (3, .ref (E.2.1 11 2)), (4, .ref (E.2.1 f 3)), (5, .int x5)]) 6 rfl rfl (fun _ => rfl) (by decide) dL_way_86 (fun v86_5 => ?_)
        refine cr_goto X 33 dL_way_89 rfl ?_
        refine cr_sub (lv' := [(0, .int x0), (1, .int x1), (2, .ref (E.2.1 11 1)), (3, .ref (E.2.1 11 2)), (4, .ref (E.2.1 f 3)), (5, .int x5), (6, .int v86_5)]) [1, 2, 3, 4, 5, 6, 0] rfl ?_
        exact ih x0 x1 x5 v86_5
      · refine cr_aload_n X 3 rfl dL_way_63 ?_
        refine cr_iconst X (2 : Int32) (by decide) dL_way_64 ?_
        refine cr_iload X 6 rfl dL_way_65 ?_
        refine cr_imul X dL_way_67 ?_
        refine cr_iconst X (1 : Int32) (by decide) dL_way_68 ?_
        refine cr_iadd X dL_way_69 ?_
        refine cr_iald X ((cr_k2 E).at (cr_rowo S0 G (cr_gne hf) 2) rfl) dL_way_70 ?_
        refine cr_aload_n X 2 rfl dL_way_71 ?_
        refine cr_bipush X (6 : Int32) (by decide) dL_way_72 ?_
        refine cr_ialdk X 6 (by decide) (by decide) ((cr_k1 E).at (cr_rowo S0 G (cr_gne hf) 1) rfl) dL_way_74 ?_
        refine cr_icmp_le X 86 dL_way_75 rfl ?_ ?_
        · refine cr_iinc X (x6 + 1) (fun v86_6 => [(6, .int v86_6), (0, .int x0), (1, .int x1), (2, .ref (E.2.1 11 1)), (3, .ref (E.2.1 11 2)), (4, .ref (E.2.1 f 3)), (5, .int x5)]) 6 rfl rfl (fun _ => rfl) (by decide) dL_way_86 (fun v86_6 => ?_)
          refine cr_goto X 33 dL_way_89 rfl ?_
          refine cr_sub (lv' := [(0, .int x0), (1, .int x1), (2, .ref (E.2.1 11 1)), (3, .ref (E.2.1 11 2)), (4, .ref (E.2.1 f 3)), (5, .int x5), (6, .int v86_6)]) [1, 2, 3, 4, 5, 6, 0] rfl ?_
          exact ih x0 x1 x5 v86_6
        · refine cr_iload X 5 rfl dL_way_78 ?_
          refine cr_aload_n X 2 rfl dL_way_80 ?_
          refine cr_iconst X (4 : Int32) (by decide) dL_way_81 ?_
          refine cr_ialdk X 4 (by decide) (by decide) ((cr_k1 E).at (cr_rowo S0 G (cr_gne hf) 1) rfl) dL_way_82 ?_
          refine cr_iadd X dL_way_83 ?_
          refine cr_istoreb X (fun v84_7 => [(5, .int v84_7), (0, .int x0), (1, .int x1), (2, .ref (E.2.1 11 1)), (3, .ref (E.2.1 11 2)), (4, .ref (E.2.1 f 3)), (6, .int x6)]) (fun _ => rfl) (by decide) dL_way_84 (fun v84_7 => ?_)
          refine cr_iinc X (x6 + 1) (fun v86_8 => [(6, .int v86_8), (5, .int v84_7), (0, .int x0), (1, .int x1), (2, .ref (E.2.1 11 1)), (3, .ref (E.2.1 11 2)), (4, .ref (E.2.1 f 3))]) 6 rfl rfl (fun _ => rfl) (by decide) dL_way_86 (fun v86_8 => ?_)
          refine cr_goto X 33 dL_way_89 rfl ?_
          refine cr_sub (lv' := [(0, .int x0), (1, .int x1), (2, .ref (E.2.1 11 1)), (3, .ref (E.2.1 11 2)), (4, .ref (E.2.1 f 3)), (5, .int v84_7), (6, .int v86_8)]) [2, 3, 4, 5, 6, 1, 0] rfl ?_
          exact ih x0 x1 v84_7 v86_8
set_option maxHeartbeats 4000000 in
set_option maxRecDepth 100000 in
theorem c_L_way (l : Launch) (E : cr_E) (hEK : cr_EK E) (S0 : cr_S) {f : Nat} (hf : cr_g E f) (G : cr_G) (p0 : Int32) (p1 : Int32) : cr_M l E yL_way wsL_way rm_L_way [.int p0, .int p1, .ref (E.2.1 11 1), .ref (E.2.1 11 2), .ref (E.2.1 f 3)] (cr_us S0 f G) (cr_vI (cr_us S0 f G)) (s_L_way (S0.1 11) G p0 p1) := by
  refine cr_enter (cc := cL_way) (nL := 7) (rt := (some .int)) hEK (by decide) rfl (Nat.le_of_ble_eq_true rfl) (fun Γ hΓ X => ?_)
  subst hΓ
  have X : cr_X Γ E cL_way 7 RL wsL_way rm_L_way (some .int) := X
  unfold s_L_way
  show cr_P Γ E 7 _ 0 0 (cr_us S0 f G) 0 ([(0, .int p0), (1, .int p1), (2, .ref (E.2.1 11 1)), (3, .ref (E.2.1 11 2)), (4, .ref (E.2.1 f 3))]) [] _
  refine cr_iload_n X 0 rfl dL_way_0 ?_
  refine cr_iload_n X 1 rfl dL_way_1 ?_
  refine cr_isub X dL_way_2 ?_
  refine cr_callS X (As := [.int ((p0 - p1))]) (rest := []) (c_L_abs Γ.2.1 E hEK ((cr_us S0 f G)) ((p0 - p1))) 1 gL_way_L_abs rfl rfl rfl (by decide +kernel) ⟨Nat.le_of_ble_eq_true rfl, Nat.le_of_ble_eq_true rfl⟩ (by decide) rfl rfl (Nat.le_of_ble_eq_true rfl) dL_way_3 (fun r3_1 => ?_)
  show cr_P Γ E 7 _ 0 0 (cr_us S0 f G) 6 ([(0, .int p0), (1, .int p1), (2, .ref (E.2.1 11 1)), (3, .ref (E.2.1 11 2)), (4, .ref (E.2.1 f 3))]) ([.int r3_1]) _
  refine cr_aload_n X 2 rfl dL_way_6 ?_
  refine cr_iconst X (1 : Int32) (by decide) dL_way_7 ?_
  refine cr_ialdk X 1 (by decide) (by decide) ((cr_k1 E).at (cr_rowo S0 G (cr_gne hf) 1) rfl) dL_way_8 ?_
  refine cr_idiv X dL_way_9 ?_
  refine cr_istoreb X (fun v10_2 => [(5, .int v10_2), (0, .int p0), (1, .int p1), (2, .ref (E.2.1 11 1)), (3, .ref (E.2.1 11 2)), (4, .ref (E.2.1 f 3))]) (fun _ => rfl) (by decide) dL_way_10 (fun v10_2 => ?_)
  refine cr_iload X 0 rfl dL_way_12 ?_
  refine cr_aload_n X 3 rfl dL_way_14 ?_
  refine cr_iconst X (1 : Int32) (by decide) dL_way_15 ?_
  refine cr_ialdk X 1 (by decide) (by decide) ((cr_k1 E).at (cr_rowo S0 G (cr_gne hf) 1) rfl) dL_way_16 ?_
  refine cr_imul X dL_way_17 ?_
  refine cr_iload_n X 1 rfl dL_way_18 ?_
  refine cr_iload_n X 2 rfl dL_way_19 ?_
  refine cr_isub X dL_way_20 ?_
  refine cr_callS X (As := [.int ((p0 - p1))]) (rest := [.int ((v10_2 * (((S0.1 11) 1) 1)))]) (c_L_abs Γ.2.1 E hEK ((cr_us S0 f G)) ((p0 - p1))) 1 gL_way_L_abs rfl rfl rfl (by decide +kernel) ⟨Nat.le_of_ble_eq_true rfl, Nat.le_of_ble_eq_true rfl⟩ (by decide) rfl rfl (Nat.le_of_ble_eq_true rfl) dL_way_21 (fun r21_3 => ?_)
  show cr_P Γ E 7 _ 0 0 (cr_us S0 f G) 24 ([(5, .int v10_2), (0, .int p0), (1, .int p1), (2, .ref (E.2.1 11 1)), (3, .ref (E.2.1 11 2)), (4, .ref (E.2.1 f 3))]) ([.int r21_3, .int ((v10_2 * (((S0.1 11) 1) 1)))]) _
  refine cr_icmp_ge X 30 dL_way_24 rfl ?_ ?_
  · refine cr_iconst X (0 : Int32) (by decide) dL_way_30 ?_
    refine cr_istore X ([(6, .int ((0 : Int32))), (5, .int v10_2), (0, .int p0), (1, .int p1), (2, .ref (E.2.1 11 1)), (3, .ref (E.2.1 11 2)), (4, .ref (E.2.1 f 3))]) rfl (by decide) dL_way_31 ?_
    refine cr_sub (lv' := [(0, .int p0), (1, .int p1), (2, .ref (E.2.1 11 1)), (3, .ref (E.2.1 11 2)), (4, .ref (E.2.1 f 3)), (5, .int v10_2), (6, .int ((0 : Int32)))]) [2, 3, 4, 5, 6, 1, 0] rfl ?_
    exact b_L_way_33 X S0 hf G 1200 p0 p1 v10_2 ((0 : Int32))
  · refine cr_iinc X (v10_2 + 1) (fun v27_4 => [(5, .int v27_4), (0, .int p0), (1, .int p1), (2, .ref (E.2.1 11 1)), (3, .ref (E.2.1 11 2)), (4, .ref (E.2.1 f 3))]) 0 rfl rfl (fun _ => rfl) (by decide) dL_way_27 (fun v27_4 => ?_)
    refine cr_iconst X (0 : Int32) (by decide) dL_way_30 ?_
    refine cr_istore X ([(6, .int ((0 : Int32))), (5, .int v27_4), (0, .int p0), (1, .int p1), (2, .ref (E.2.1 11 1)), (3, .ref (E.2.1 11 2)), (4, .ref (E.2.1 f 3))]) rfl (by decide) dL_way_31 ?_
    refine cr_sub (lv' := [(0, .int p0), (1, .int p1), (2, .ref (E.2.1 11 1)), (3, .ref (E.2.1 11 2)), (4, .ref (E.2.1 f 3)), (5, .int v27_4), (6, .int ((0 : Int32)))]) [2, 3, 4, 5, 6, 1, 0] rfl ?_
    exact b_L_way_33 X S0 hf G 1200 p0 p1 v27_4 ((0 : Int32))
theorem c_L_way_S (l : Launch) (E : cr_E) (hEK : cr_EK E) (S : cr_S) {f : Nat} (hf : cr_g E f) (p0 : Int32) (p1 : Int32) : cr_M l E yL_way wsL_way rm_L_way [.int p0, .int p1, .ref (E.2.1 11 1), .ref (E.2.1 11 2), .ref (E.2.1 f 3)] S (cr_vI S) (s_L_way (S.1 11) (S.1 f) p0 p1) := by
  have h := c_L_way l E hEK S hf (S.1 f) p0 p1
  rw [cr_us_self] at h
  exact h
abbrev rm_L_ready : Room := { frames := 0, cells := 0, slots := 0, locals := 0 }
set_option maxHeartbeats 4000000 in
set_option maxRecDepth 100000 in
theorem b_L_ready_2 {Γ : cr_C} {E : cr_E} (X : cr_X Γ E cL_ready 4 RL wsL_ready rm_L_ready (some .int)) (S0 : cr_S) {f : Nat} (hf : cr_g E f) (G : cr_G) : ∀ (n : Nat) (x0 : Int32) (x3 : Int32), cr_P Γ E 4 (cr_F Γ E (cr_vI (cr_us S0 f G))) 0 0 (cr_us S0 f G) 2 ([(0, .int x0), (1, .ref (E.2.1 f 1)), (2, .ref (E.2.1 f 3)), (3, .int x3)]) ([]) (s_L_ready_2 (S0.1 11) G n x0 x3) := by
  have hEK := X.2.2.2.2.2.2.1
  intro n
  induction n with
  | zero => intro x0 x3; exact cr_none
  | succ n ih =>
    intro x0 x3
    rw [s_L_ready_2]
    refine cr_iload_n X 3 rfl dL_ready_2 ?_
    refine cr_aload_n X 2 rfl dL_ready_3 ?_
    refine cr_bipush X (7 : Int32) (by decide) dL_ready_4 ?_
    refine cr_ialdk X 7 (by decide) (by decide) ((cr_n3 E hf).at (cr_row S0 f G 3) rfl) dL_ready_6 ?_
    refine cr_icmp_ge X 37 dL_ready_7 rfl ?_ ?_
    · refine cr_iconst X (-1 : Int32) (by decide) dL_ready_37 ?_
      exact cr_iret X rfl rfl dL_ready_38
    · refine cr_aload_n X 1 rfl dL_ready_10 ?_
      refine cr_iconst X (2 : Int32) (by decide) dL_ready_11 ?_
      refine cr_iload_n X 3 rfl dL_ready_12 ?_
      refine cr_imul X dL_ready_13 ?_
      refine cr_iald X ((cr_n1 E hf).at (cr_row S0 f G 1) rfl) dL_ready_14 ?_
      refine cr_iload_n X 0 rfl dL_ready_15 ?_
      refine cr_icmp_ne X 31 dL_ready_16 rfl ?_ ?_
      · refine cr_iinc X (x3 + 1) (fun v31_1 => [(3, .int v31_1), (0, .int x0), (1, .ref (E.2.1 f 1)), (2, .ref (E.2.1 f 3))]) 3 rfl rfl (fun _ => rfl) (by decide) dL_ready_31 (fun v31_1 => ?_)
        refine cr_goto X 2 dL_ready_34 rfl ?_
        refine cr_sub (lv' := [(0, .int x0), (1, .ref (E.2.1 f 1)), (2, .ref (E.2.1 f 3)), (3, .int v31_1)]) [1, 2, 3, 0] rfl ?_
        exact ih x0 v31_1
      · refine cr_aload_n X 1 rfl dL_ready_19 ?_
        refine cr_iconst X (2 : Int32) (by decide) dL_ready_20 ?_
        refine cr_iload_n X 3 rfl dL_ready_21 ?_
        refine cr_imul X dL_ready_22 ?_
        refine cr_iconst X (1 : Int32) (by decide) dL_ready_23 ?_
        refine cr_iadd X dL_ready_24 ?_
        refine cr_iald X ((cr_n1 E hf).at (cr_row S0 f G 1) rfl) dL_ready_25 ?_
        refine cr_if_ne X 31 dL_ready_26 rfl ?_ ?_
        · refine cr_iinc X (x3 + 1) (fun v31_2 => [(3, .int v31_2), (0, .int x0), (1, .ref (E.2.1 f 1)), (2, .ref (E.2.1 f 3))]) 3 rfl rfl (fun _ => rfl) (by decide) dL_ready_31 (fun v31_2 => ?_)
          refine cr_goto X 2 dL_ready_34 rfl ?_
          refine cr_sub (lv' := [(0, .int x0), (1, .ref (E.2.1 f 1)), (2, .ref (E.2.1 f 3)), (3, .int v31_2)]) [1, 2, 3, 0] rfl ?_
          exact ih x0 v31_2
        · refine cr_iload_n X 3 rfl dL_ready_29 ?_
          exact cr_iret X rfl rfl dL_ready_30
set_option maxHeartbeats 4000000 in
set_option maxRecDepth 100000 in
theorem c_L_ready (l : Launch) (E : cr_E) (hEK : cr_EK E) (S0 : cr_S) {f : Nat} (hf : cr_g E f) (G : cr_G) (p0 : Int32) : cr_M l E yL_ready wsL_ready rm_L_ready [.int p0, .ref (E.2.1 f 1), .ref (E.2.1 f 3)] (cr_us S0 f G) (cr_vI (cr_us S0 f G)) (s_L_ready (S0.1 11) G p0) := by
  refine cr_enter (cc := cL_ready) (nL := 4) (rt := (some .int)) hEK (by decide) rfl (Nat.le_of_ble_eq_true rfl) (fun Γ hΓ X => ?_)
  subst hΓ
  have X : cr_X Γ E cL_ready 4 RL wsL_ready rm_L_ready (some .int) := X
  unfold s_L_ready
  show cr_P Γ E 4 _ 0 0 (cr_us S0 f G) 0 ([(0, .int p0), (1, .ref (E.2.1 f 1)), (2, .ref (E.2.1 f 3))]) [] _
  refine cr_iconst X (0 : Int32) (by decide) dL_ready_0 ?_
  refine cr_istore_n X ([(3, .int ((0 : Int32))), (0, .int p0), (1, .ref (E.2.1 f 1)), (2, .ref (E.2.1 f 3))]) rfl (by decide) dL_ready_1 ?_
  refine cr_sub (lv' := [(0, .int p0), (1, .ref (E.2.1 f 1)), (2, .ref (E.2.1 f 3)), (3, .int ((0 : Int32)))]) [1, 2, 3, 0] rfl ?_
  exact b_L_ready_2 X S0 hf G 1200 p0 ((0 : Int32))
theorem c_L_ready_S (l : Launch) (E : cr_E) (hEK : cr_EK E) (S : cr_S) {f : Nat} (hf : cr_g E f) (p0 : Int32) : cr_M l E yL_ready wsL_ready rm_L_ready [.int p0, .ref (E.2.1 f 1), .ref (E.2.1 f 3)] S (cr_vI S) (s_L_ready (S.1 11) (S.1 f) p0) := by
  have h := c_L_ready l E hEK S hf (S.1 f) p0
  rw [cr_us_self] at h
  exact h
abbrev rm_L_serve : Room := { frames := 2, cells := 0, slots := 0, locals := 46 }
set_option maxHeartbeats 4000000 in
set_option maxRecDepth 100000 in
theorem b_L_serve_98 {Γ : cr_C} {E : cr_E} (X : cr_X Γ E cL_serve 9 RL wsL_serve rm_L_serve (some .int)) (S0 : cr_S) {f : Nat} (hf : cr_g E f) (x0 : Int32) (x8 : Int32) (y0 : Int32) (y1 : Int32) (G : cr_G) : cr_P Γ E 9 (cr_F Γ E (cr_vIG S0 f)) 0 0 (cr_us S0 f G) 98 ([(0, .int x0), (2, .ref (E.2.1 f 0)), (6, .ref (E.2.1 f 3)), (8, .int x8)]) ([.int y0, .int y1, .ref (E.2.1 f 3)]) (s_L_serve_98 (S0.1 11) x0 x8 y0 y1 G) := by
  have hEK := X.2.2.2.2.2.2.1
  unfold s_L_serve_98
  refine cr_iastG X (cr_n3 E hf) (fun _ _ => rfl) dL_serve_98 (fun G98_8 => ?_)
  refine cr_iload X 3 rfl dL_serve_99 ?_
  refine cr_if_gt X 114 dL_serve_101 rfl ?_ ?_
  · refine cr_iconst X (1 : Int32) (by decide) dL_serve_114 ?_
    exact cr_iret X rfl rfl dL_serve_115
  · refine cr_aload X 2 rfl dL_serve_104 ?_
    refine cr_iconst X (0 : Int32) (by decide) dL_serve_106 ?_
    refine cr_aload_n X 1 rfl dL_serve_107 ?_
    refine cr_bipush X (7 : Int32) (by decide) dL_serve_108 ?_
    refine cr_iload_n X 0 rfl dL_serve_110 ?_
    refine cr_imul X dL_serve_111 ?_
    refine cr_iald X ((cr_n0 E hf).at (cr_row S0 f G98_8 0) rfl) dL_serve_112 ?_
    refine cr_iastGk X 0 (cr_n3 E hf) (fun _ _ => rfl) (by decide) (by decide) dL_serve_113 (fun G113_9 => ?_)
    refine cr_iconst X (1 : Int32) (by decide) dL_serve_114 ?_
    exact cr_iret X rfl rfl dL_serve_115
set_option maxHeartbeats 4000000 in
set_option maxRecDepth 100000 in
theorem b_L_serve_66 {Γ : cr_C} {E : cr_E} (X : cr_X Γ E cL_serve 9 RL wsL_serve rm_L_serve (some .int)) (S0 : cr_S) {f : Nat} (hf : cr_g E f) (x0 : Int32) (y0 : Int32) (G : cr_G) : cr_P Γ E 9 (cr_F Γ E (cr_vIG S0 f)) 0 0 (cr_us S0 f G) 66 ([(0, .int x0), (2, .ref (E.2.1 f 0)), (6, .ref (E.2.1 f 3))]) ([.int y0]) (s_L_serve_66 (S0.1 11) x0 y0 G) := by
  have hEK := X.2.2.2.2.2.2.1
  unfold s_L_serve_66
  refine cr_iconst X (1 : Int32) (by decide) dL_serve_66 ?_
  refine cr_isub X dL_serve_67 ?_
  refine cr_istoreb X (fun v68_5 => [(8, .int v68_5), (0, .int x0), (2, .ref (E.2.1 f 0)), (6, .ref (E.2.1 f 3))]) (fun _ => rfl) (by decide) dL_serve_68 (fun v68_5 => ?_)
  refine cr_aload X 3 rfl dL_serve_70 ?_
  refine cr_iconst X (1 : Int32) (by decide) dL_serve_72 ?_
  refine cr_iload X 0 rfl dL_serve_73 ?_
  refine cr_if_le X 82 dL_serve_75 rfl ?_ ?_
  · refine cr_iconst X (-1 : Int32) (by decide) dL_serve_82 ?_
    refine cr_iastGk X 1 (cr_n3 E hf) (fun _ _ => rfl) (by decide) (by decide) dL_serve_83 (fun G83_6 => ?_)
    refine cr_aload X 3 rfl dL_serve_84 ?_
    refine cr_iconst X (2 : Int32) (by decide) dL_serve_86 ?_
    refine cr_iload X 0 rfl dL_serve_87 ?_
    refine cr_if_le X 97 dL_serve_89 rfl ?_ ?_
    · refine cr_iconst X (0 : Int32) (by decide) dL_serve_97 ?_
      refine cr_sub (lv' := [(0, .int x0), (2, .ref (E.2.1 f 0)), (6, .ref (E.2.1 f 3)), (8, .int v68_5)]) [1, 2, 3, 0] rfl ?_
      exact b_L_serve_98 X S0 hf x0 v68_5 ((0 : Int32)) ((2 : Int32)) G83_6
    · refine cr_iload X 0 rfl dL_serve_92 ?_
      refine cr_goto X 98 dL_serve_94 rfl ?_
      refine cr_sub (lv' := [(0, .int x0), (2, .ref (E.2.1 f 0)), (6, .ref (E.2.1 f 3)), (8, .int v68_5)]) [1, 2, 3, 0] rfl ?_
      exact b_L_serve_98 X S0 hf x0 v68_5 v68_5 ((2 : Int32)) G83_6
  · refine cr_iload_n X 1 rfl dL_serve_78 ?_
    refine cr_goto X 83 dL_serve_79 rfl ?_
    refine cr_iastGk X 1 (cr_n3 E hf) (fun _ _ => rfl) (by decide) (by decide) dL_serve_83 (fun G83_7 => ?_)
    refine cr_aload X 3 rfl dL_serve_84 ?_
    refine cr_iconst X (2 : Int32) (by decide) dL_serve_86 ?_
    refine cr_iload X 0 rfl dL_serve_87 ?_
    refine cr_if_le X 97 dL_serve_89 rfl ?_ ?_
    · refine cr_iconst X (0 : Int32) (by decide) dL_serve_97 ?_
      refine cr_sub (lv' := [(0, .int x0), (2, .ref (E.2.1 f 0)), (6, .ref (E.2.1 f 3)), (8, .int v68_5)]) [1, 2, 3, 0] rfl ?_
      exact b_L_serve_98 X S0 hf x0 v68_5 ((0 : Int32)) ((2 : Int32)) G83_7
    · refine cr_iload X 0 rfl dL_serve_92 ?_
      refine cr_goto X 98 dL_serve_94 rfl ?_
      refine cr_sub (lv' := [(0, .int x0), (2, .ref (E.2.1 f 0)), (6, .ref (E.2.1 f 3)), (8, .int v68_5)]) [1, 2, 3, 0] rfl ?_
      exact b_L_serve_98 X S0 hf x0 v68_5 v68_5 ((2 : Int32)) G83_7
set_option maxHeartbeats 4000000 in
set_option maxRecDepth 100000 in
theorem b_L_serve_32 {Γ : cr_C} {E : cr_E} (X : cr_X Γ E cL_serve 9 RL wsL_serve rm_L_serve (some .int)) (S0 : cr_S) {f : Nat} (hf : cr_g E f) (x0 : Int32) (G : cr_G) : cr_P Γ E 9 (cr_F Γ E (cr_vIG S0 f)) 0 0 (cr_us S0 f G) 32 ([(0, .int x0), (2, .ref (E.2.1 f 0)), (4, .ref (E.2.1 11 1)), (5, .ref (E.2.1 11 2)), (6, .ref (E.2.1 f 3))]) ([]) (s_L_serve_32 (S0.1 11) x0 G) := by
  have hEK := X.2.2.2.2.2.2.1
  unfold s_L_serve_32
  refine cr_aload X 4 rfl dL_serve_32 ?_
  refine cr_iconst X (1 : Int32) (by decide) dL_serve_34 ?_
  refine cr_ialdk X 1 (by decide) (by decide) ((cr_n3 E hf).at (cr_row S0 f G 3) rfl) dL_serve_35 ?_
  refine cr_iload_n X 0 rfl dL_serve_36 ?_
  refine cr_icmp_ne X 47 dL_serve_37 rfl ?_ ?_
  · refine cr_aload X 4 rfl dL_serve_47 ?_
    refine cr_iconst X (0 : Int32) (by decide) dL_serve_49 ?_
    refine cr_ialdk X 0 (by decide) (by decide) ((cr_n3 E hf).at (cr_row S0 f G 3) rfl) dL_serve_50 ?_
    refine cr_aload_n X 1 rfl dL_serve_51 ?_
    refine cr_bipush X (7 : Int32) (by decide) dL_serve_52 ?_
    refine cr_iload_n X 0 rfl dL_serve_54 ?_
    refine cr_imul X dL_serve_55 ?_
    refine cr_iald X ((cr_n0 E hf).at (cr_row S0 f G 0) rfl) dL_serve_56 ?_
    refine cr_aload X 2 rfl dL_serve_57 ?_
    refine cr_aload X 3 rfl dL_serve_59 ?_
    refine cr_aload X 4 rfl dL_serve_61 ?_
    refine cr_callS X (As := [.int (((G 3) 0)), .int (((G 0) (((7 : Int32) * x0)).toNatClampNeg)), .ref (E.2.1 11 1), .ref (E.2.1 11 2), .ref (E.2.1 f 3)]) (rest := []) (c_L_way Γ.2.1 E hEK S0 hf G (((G 3) 0)) (((G 0) (((7 : Int32) * x0)).toNatClampNeg))) 5 gL_serve_L_way rfl rfl rfl (by decide +kernel) ⟨Nat.le_of_ble_eq_true rfl, Nat.le_of_ble_eq_true rfl⟩ (by decide) rfl rfl (Nat.le_of_ble_eq_true rfl) dL_serve_63 (fun r63_4 => ?_)
    show cr_P Γ E 9 _ 0 0 (cr_us S0 f G) 66 ([(0, .int x0), (2, .ref (E.2.1 f 0)), (4, .ref (E.2.1 11 1)), (5, .ref (E.2.1 11 2)), (6, .ref (E.2.1 f 3))]) ([.int r63_4]) _
    refine cr_sub (lv' := [(0, .int x0), (2, .ref (E.2.1 f 0)), (6, .ref (E.2.1 f 3))]) [0, 1, 4] rfl ?_
    exact b_L_serve_66 X S0 hf x0 r63_4 G
  · refine cr_aload X 4 rfl dL_serve_40 ?_
    refine cr_iconst X (2 : Int32) (by decide) dL_serve_42 ?_
    refine cr_ialdk X 2 (by decide) (by decide) ((cr_n3 E hf).at (cr_row S0 f G 3) rfl) dL_serve_43 ?_
    refine cr_goto X 66 dL_serve_44 rfl ?_
    refine cr_sub (lv' := [(0, .int x0), (2, .ref (E.2.1 f 0)), (6, .ref (E.2.1 f 3))]) [0, 1, 4] rfl ?_
    exact b_L_serve_66 X S0 hf x0 (((G 3) 2)) G
set_option maxHeartbeats 4000000 in
set_option maxRecDepth 100000 in
theorem b_L_serve_12 {Γ : cr_C} {E : cr_E} (X : cr_X Γ E cL_serve 9 RL wsL_serve rm_L_serve (some .int)) (S0 : cr_S) {f : Nat} (hf : cr_g E f) (x0 : Int32) (x1 : Int32) (y0 : Int32) (G : cr_G) : cr_P Γ E 9 (cr_F Γ E (cr_vIG S0 f)) 0 0 (cr_us S0 f G) 12 ([(0, .int x0), (1, .int x1), (2, .ref (E.2.1 f 0)), (3, .ref (E.2.1 f 1)), (4, .ref (E.2.1 11 1)), (5, .ref (E.2.1 11 2)), (6, .ref (E.2.1 f 3))]) ([.int y0]) (s_L_serve_12 (S0.1 11) x0 x1 y0 G) := by
  have hEK := X.2.2.2.2.2.2.1
  unfold s_L_serve_12
  refine cr_istore X ([(7, .int y0), (0, .int x0), (1, .int x1), (2, .ref (E.2.1 f 0)), (3, .ref (E.2.1 f 1)), (4, .ref (E.2.1 11 1)), (5, .ref (E.2.1 11 2)), (6, .ref (E.2.1 f 3))]) rfl (by decide) dL_serve_12 ?_
  refine cr_iload X 0 rfl dL_serve_14 ?_
  refine cr_if_ne X 32 dL_serve_16 rfl ?_ ?_
  · refine cr_sub (lv' := [(0, .int x0), (2, .ref (E.2.1 f 0)), (4, .ref (E.2.1 11 1)), (5, .ref (E.2.1 11 2)), (6, .ref (E.2.1 f 3))]) [1, 3, 5, 6, 7] rfl ?_
    exact b_L_serve_32 X S0 hf x0 G
  · refine cr_aload X 7 rfl dL_serve_19 ?_
    refine cr_iconst X (0 : Int32) (by decide) dL_serve_21 ?_
    refine cr_ialdk X 0 (by decide) (by decide) ((cr_n3 E hf).at (cr_row S0 f G 3) rfl) dL_serve_22 ?_
    refine cr_aload_n X 3 rfl dL_serve_23 ?_
    refine cr_bipush X (7 : Int32) (by decide) dL_serve_24 ?_
    refine cr_iload_n X 1 rfl dL_serve_26 ?_
    refine cr_imul X dL_serve_27 ?_
    refine cr_iald X ((cr_n0 E hf).at (cr_row S0 f G 0) rfl) dL_serve_28 ?_
    refine cr_icmp_eq X 116 dL_serve_29 rfl ?_ ?_
    · refine cr_iload_n X 1 rfl dL_serve_116 ?_
      refine cr_aload_n X 4 rfl dL_serve_117 ?_
      refine cr_aload X 7 rfl dL_serve_118 ?_
      refine cr_callS X (As := [.int x0, .ref (E.2.1 f 1), .ref (E.2.1 f 3)]) (rest := []) (c_L_ready Γ.2.1 E hEK S0 hf G x0) 3 gL_serve_L_ready rfl rfl rfl (by decide +kernel) ⟨Nat.le_of_ble_eq_true rfl, Nat.le_of_ble_eq_true rfl⟩ (by decide) rfl rfl (Nat.le_of_ble_eq_true rfl) dL_serve_120 (fun r120_1 => ?_)
      show cr_P Γ E 9 _ 0 0 (cr_us S0 f G) 123 ([(7, .int y0), (0, .int x0), (1, .int x1), (2, .ref (E.2.1 f 0)), (3, .ref (E.2.1 f 1)), (4, .ref (E.2.1 11 1)), (5, .ref (E.2.1 11 2)), (6, .ref (E.2.1 f 3))]) ([.int r120_1]) _
      refine cr_if_ge X 128 dL_serve_123 rfl ?_ ?_
      · refine cr_iload_n X 2 rfl dL_serve_128 ?_
        refine cr_aload X 5 rfl dL_serve_129 ?_
        refine cr_iconst X (0 : Int32) (by decide) dL_serve_131 ?_
        refine cr_ialdk X 0 (by decide) (by decide) ((cr_k1 E).at (cr_rowo S0 G (cr_gne hf) 1) rfl) dL_serve_132 ?_
        refine cr_aload_n X 3 rfl dL_serve_133 ?_
        refine cr_bipush X (7 : Int32) (by decide) dL_serve_134 ?_
        refine cr_iload_n X 1 rfl dL_serve_136 ?_
        refine cr_imul X dL_serve_137 ?_
        refine cr_iconst X (1 : Int32) (by decide) dL_serve_138 ?_
        refine cr_iadd X dL_serve_139 ?_
        refine cr_iald X ((cr_n0 E hf).at (cr_row S0 f G 0) rfl) dL_serve_140 ?_
        refine cr_bipush X (25 : Int32) (by decide) dL_serve_141 ?_
        refine cr_idivk X (by decide) dL_serve_143 ?_
        refine cr_isub X dL_serve_144 ?_
        refine cr_icmp_le X 150 dL_serve_145 rfl ?_ ?_
        · refine cr_aload X 7 rfl dL_serve_150 ?_
          refine cr_iconst X (3 : Int32) (by decide) dL_serve_152 ?_
          refine cr_dup2 X rfl rfl dL_serve_153 ?_
          refine cr_ialdk X 3 (by decide) (by decide) ((cr_n3 E hf).at (cr_row S0 f G 3) rfl) dL_serve_154 ?_
          refine cr_iconst X (1 : Int32) (by decide) dL_serve_155 ?_
          refine cr_iadd X dL_serve_156 ?_
          refine cr_iastGk X 3 (cr_n3 E hf) (fun _ _ => rfl) (by decide) (by decide) dL_serve_157 (fun G157_2 => ?_)
          refine cr_aload X 7 rfl dL_serve_158 ?_
          refine cr_iconst X (4 : Int32) (by decide) dL_serve_160 ?_
          refine cr_iload_n X 1 rfl dL_serve_161 ?_
          refine cr_iastGk X 4 (cr_n3 E hf) (fun _ _ => rfl) (by decide) (by decide) dL_serve_162 (fun G162_3 => ?_)
          refine cr_iconst X (4 : Int32) (by decide) dL_serve_163 ?_
          exact cr_iret X rfl rfl dL_serve_164
        · refine cr_iconst X (3 : Int32) (by decide) dL_serve_148 ?_
          exact cr_iret X rfl rfl dL_serve_149
      · refine cr_iconst X (2 : Int32) (by decide) dL_serve_126 ?_
        exact cr_iret X rfl rfl dL_serve_127
    · refine cr_sub (lv' := [(0, .int x0), (2, .ref (E.2.1 f 0)), (4, .ref (E.2.1 11 1)), (5, .ref (E.2.1 11 2)), (6, .ref (E.2.1 f 3))]) [1, 3, 5, 6, 7] rfl ?_
      exact b_L_serve_32 X S0 hf x0 G
set_option maxHeartbeats 4000000 in
set_option maxRecDepth 100000 in
theorem c_L_serve (l : Launch) (E : cr_E) (hEK : cr_EK E) (S0 : cr_S) {f : Nat} (hf : cr_g E f) (G : cr_G) (p0 : Int32) (p1 : Int32) : cr_M l E yL_serve wsL_serve rm_L_serve [.int p0, .int p1, .ref (E.2.1 f 0), .ref (E.2.1 f 1), .ref (E.2.1 11 1), .ref (E.2.1 11 2), .ref (E.2.1 f 3)] (cr_us S0 f G) (cr_vIG S0 f) (s_L_serve (S0.1 11) p0 p1 G) := by
  refine cr_enter (cc := cL_serve) (nL := 9) (rt := (some .int)) hEK (by decide) rfl (Nat.le_of_ble_eq_true rfl) (fun Γ hΓ X => ?_)
  subst hΓ
  have X : cr_X Γ E cL_serve 9 RL wsL_serve rm_L_serve (some .int) := X
  unfold s_L_serve
  show cr_P Γ E 9 _ 0 0 (cr_us S0 f G) 0 ([(0, .int p0), (1, .int p1), (2, .ref (E.2.1 f 0)), (3, .ref (E.2.1 f 1)), (4, .ref (E.2.1 11 1)), (5, .ref (E.2.1 11 2)), (6, .ref (E.2.1 f 3))]) [] _
  refine cr_aload X 6 rfl dL_serve_0 ?_
  refine cr_iconst X (1 : Int32) (by decide) dL_serve_2 ?_
  refine cr_ialdk X 1 (by decide) (by decide) ((cr_n3 E hf).at (cr_row S0 f G 3) rfl) dL_serve_3 ?_
  refine cr_if_lt X 11 dL_serve_4 rfl ?_ ?_
  · refine cr_iconst X (0 : Int32) (by decide) dL_serve_11 ?_
    refine cr_sub (lv' := [(0, .int p0), (1, .int p1), (2, .ref (E.2.1 f 0)), (3, .ref (E.2.1 f 1)), (4, .ref (E.2.1 11 1)), (5, .ref (E.2.1 11 2)), (6, .ref (E.2.1 f 3))]) [0, 1, 2, 3, 4, 5, 6] rfl ?_
    exact b_L_serve_12 X S0 hf p0 p1 ((0 : Int32)) G
  · refine cr_iconst X (1 : Int32) (by decide) dL_serve_7 ?_
    refine cr_goto X 12 dL_serve_8 rfl ?_
    refine cr_sub (lv' := [(0, .int p0), (1, .int p1), (2, .ref (E.2.1 f 0)), (3, .ref (E.2.1 f 1)), (4, .ref (E.2.1 11 1)), (5, .ref (E.2.1 11 2)), (6, .ref (E.2.1 f 3))]) [0, 1, 2, 3, 4, 5, 6] rfl ?_
    exact b_L_serve_12 X S0 hf p0 p1 ((1 : Int32)) G
theorem c_L_serve_S (l : Launch) (E : cr_E) (hEK : cr_EK E) (S : cr_S) {f : Nat} (hf : cr_g E f) (p0 : Int32) (p1 : Int32) : cr_M l E yL_serve wsL_serve rm_L_serve [.int p0, .int p1, .ref (E.2.1 f 0), .ref (E.2.1 f 1), .ref (E.2.1 11 1), .ref (E.2.1 11 2), .ref (E.2.1 f 3)] S (cr_vIG S f) (s_L_serve (S.1 11) p0 p1 (S.1 f)) := by
  have h := c_L_serve l E hEK S hf (S.1 f) p0 p1
  rw [cr_us_self] at h
  exact h
abbrev rm_L_power : Room := { frames := 0, cells := 0, slots := 0, locals := 0 }
set_option maxHeartbeats 4000000 in
set_option maxRecDepth 100000 in
theorem c_L_power (l : Launch) (E : cr_E) (hEK : cr_EK E) (S0 : cr_S) {f : Nat} (hf : cr_g E f) (G : cr_G) (p0 : Int32) (p1 : Int32) : cr_M l E yL_power wsL_power rm_L_power [.int p0, .int p1, .ref (E.2.1 f 0)] (cr_us S0 f G) (cr_vI (cr_us S0 f G)) (s_L_power (S0.1 11) G p0 p1) := by
  refine cr_enter (cc := cL_power) (nL := 3) (rt := (some .int)) hEK (by decide) rfl (Nat.le_of_ble_eq_true rfl) (fun Γ hΓ X => ?_)
  subst hΓ
  have X : cr_X Γ E cL_power 3 RL wsL_power rm_L_power (some .int) := X
  unfold s_L_power
  show cr_P Γ E 3 _ 0 0 (cr_us S0 f G) 0 ([(0, .int p0), (1, .int p1), (2, .ref (E.2.1 f 0))]) [] _
  refine cr_iload_n X 1 rfl dL_power_0 ?_
  refine cr_iconst X (3 : Int32) (by decide) dL_power_1 ?_
  refine cr_icmp_lt X 11 dL_power_2 rfl ?_ ?_
  · refine cr_iconst X (0 : Int32) (by decide) dL_power_11 ?_
    exact cr_iret X rfl rfl dL_power_12
  · refine cr_iload_n X 1 rfl dL_power_5 ?_
    refine cr_bipush X (25 : Int32) (by decide) dL_power_6 ?_
    refine cr_icmp_le X 13 dL_power_8 rfl ?_ ?_
    · refine cr_iload_n X 1 rfl dL_power_13 ?_
      refine cr_bipush X (12 : Int32) (by decide) dL_power_14 ?_
      refine cr_icmp_le X 30 dL_power_16 rfl ?_ ?_
      · refine cr_aload_n X 2 rfl dL_power_30 ?_
        refine cr_bipush X (7 : Int32) (by decide) dL_power_31 ?_
        refine cr_iload_n X 0 rfl dL_power_33 ?_
        refine cr_imul X dL_power_34 ?_
        refine cr_iconst X (2 : Int32) (by decide) dL_power_35 ?_
        refine cr_iadd X dL_power_36 ?_
        refine cr_iald X ((cr_n0 E hf).at (cr_row S0 f G 0) rfl) dL_power_37 ?_
        refine cr_iload_n X 1 rfl dL_power_38 ?_
        refine cr_imul X dL_power_39 ?_
        refine cr_bipush X (12 : Int32) (by decide) dL_power_40 ?_
        refine cr_idivk X (by decide) dL_power_42 ?_
        exact cr_iret X rfl rfl dL_power_43
      · refine cr_aload_n X 2 rfl dL_power_19 ?_
        refine cr_bipush X (7 : Int32) (by decide) dL_power_20 ?_
        refine cr_iload_n X 0 rfl dL_power_22 ?_
        refine cr_imul X dL_power_23 ?_
        refine cr_iconst X (2 : Int32) (by decide) dL_power_24 ?_
        refine cr_iadd X dL_power_25 ?_
        refine cr_iald X ((cr_n0 E hf).at (cr_row S0 f G 0) rfl) dL_power_26 ?_
        refine cr_goto X 43 dL_power_27 rfl ?_
        exact cr_iret X rfl rfl dL_power_43
    · refine cr_iconst X (0 : Int32) (by decide) dL_power_11 ?_
      exact cr_iret X rfl rfl dL_power_12
theorem c_L_power_S (l : Launch) (E : cr_E) (hEK : cr_EK E) (S : cr_S) {f : Nat} (hf : cr_g E f) (p0 : Int32) (p1 : Int32) : cr_M l E yL_power wsL_power rm_L_power [.int p0, .int p1, .ref (E.2.1 f 0)] S (cr_vI S) (s_L_power (S.1 11) (S.1 f) p0 p1) := by
  have h := c_L_power l E hEK S hf (S.1 f) p0 p1
  rw [cr_us_self] at h
  exact h
abbrev rm_L_hour : Room := { frames := 3, cells := 0, slots := 0, locals := 74 }
set_option maxHeartbeats 4000000 in
set_option maxRecDepth 100000 in
theorem b_L_hour_529 {Γ : cr_C} {E : cr_E} (X : cr_X Γ E cL_hour 16 RL wsL_hour rm_L_hour (some .int)) (S0 : cr_S) {f : Nat} (hf : cr_g E f) (x11 : Int32) (G : cr_G) : cr_P Γ E 16 (cr_F Γ E (cr_vIG S0 f)) 0 0 (cr_us S0 f G) 529 ([(6, .ref (E.2.1 f 3)), (11, .int x11)]) ([]) (s_L_hour_529 (S0.1 11) x11 G) := by
  have hEK := X.2.2.2.2.2.2.1
  unfold s_L_hour_529
  refine cr_aload X 0 rfl dL_hour_529 ?_
  refine cr_iconst X (5 : Int32) (by decide) dL_hour_531 ?_
  refine cr_dup2 X rfl rfl dL_hour_532 ?_
  refine cr_ialdk X 5 (by decide) (by decide) ((cr_n3 E hf).at (cr_row S0 f G 3) rfl) dL_hour_533 ?_
  refine cr_iconst X (1 : Int32) (by decide) dL_hour_534 ?_
  refine cr_iadd X dL_hour_535 ?_
  refine cr_iastGk X 5 (cr_n3 E hf) (fun _ _ => rfl) (by decide) (by decide) dL_hour_536 (fun G536_14 => ?_)
  refine cr_iload X 1 rfl dL_hour_537 ?_
  exact cr_iret X rfl rfl dL_hour_539
set_option maxHeartbeats 4000000 in
set_option maxRecDepth 100000 in
theorem b_L_hour_486 {Γ : cr_C} {E : cr_E} (X : cr_X Γ E cL_hour 16 RL wsL_hour rm_L_hour (some .int)) (S0 : cr_S) {f : Nat} (hf : cr_g E f) : ∀ (n : Nat) (x11 : Int32) (x13 : Int32) (G : cr_G), cr_P Γ E 16 (cr_F Γ E (cr_vIG S0 f)) 0 0 (cr_us S0 f G) 486 ([(1, .ref (E.2.1 f 1)), (2, .ref (E.2.1 f 2)), (6, .ref (E.2.1 f 3)), (11, .int x11), (13, .int x13)]) ([]) (s_L_hour_486 (S0.1 11) n x11 x13 G) := by
  have hEK := X.2.2.2.2.2.2.1
  intro n
  induction n with
  | zero => intro x11 x13 G; exact cr_none
  | succ n ih =>
    intro x11 x13 G
    rw [s_L_hour_486]
    refine cr_iload X 4 rfl dL_hour_486 ?_
    refine cr_iconst X (2 : Int32) (by decide) dL_hour_488 ?_
    refine cr_aload X 2 rfl dL_hour_489 ?_
    refine cr_bipush X (7 : Int32) (by decide) dL_hour_491 ?_
    refine cr_ialdk X 7 (by decide) (by decide) ((cr_n3 E hf).at (cr_row S0 f G 3) rfl) dL_hour_493 ?_
    refine cr_imul X dL_hour_494 ?_
    refine cr_icmp_ge X 514 dL_hour_495 rfl ?_ ?_
    · refine cr_aload X 2 rfl dL_hour_514 ?_
      refine cr_iconst X (3 : Int32) (by decide) dL_hour_516 ?_
      refine cr_iconst X (0 : Int32) (by decide) dL_hour_517 ?_
      refine cr_iastGk X 3 (cr_n3 E hf) (fun _ _ => rfl) (by decide) (by decide) dL_hour_518 (fun G518_15 => ?_)
      refine cr_aload X 2 rfl dL_hour_519 ?_
      refine cr_iconst X (4 : Int32) (by decide) dL_hour_521 ?_
      refine cr_iconst X (-1 : Int32) (by decide) dL_hour_522 ?_
      refine cr_iastGk X 4 (cr_n3 E hf) (fun _ _ => rfl) (by decide) (by decide) dL_hour_523 (fun G523_16 => ?_)
      refine cr_iconst X (0 : Int32) (by decide) dL_hour_524 ?_
      refine cr_aload_n X 1 rfl dL_hour_525 ?_
      refine cr_callS X (As := [.int ((0 : Int32)), .ref (E.2.1 f 2)]) (rest := []) (c_L_off Γ.2.1 E hEK S0 hf G523_16 ((0 : Int32))) 2 gL_hour_L_off rfl rfl rfl (by decide +kernel) ⟨Nat.le_of_ble_eq_true rfl, Nat.le_of_ble_eq_true rfl⟩ (by decide) rfl rfl (Nat.le_of_ble_eq_true rfl) dL_hour_526 (fun r526_17 => ?_)
      show cr_P Γ E 16 _ 0 0 (cr_us S0 f r526_17) 529 ([(1, .ref (E.2.1 f 1)), (2, .ref (E.2.1 f 2)), (6, .ref (E.2.1 f 3)), (11, .int x11), (13, .int x13)]) ([]) _
      refine cr_sub (lv' := [(6, .ref (E.2.1 f 3)), (11, .int x11)]) [2, 3] rfl ?_
      exact b_L_hour_529 X S0 hf x11 r526_17
    · refine cr_aload_n X 0 rfl dL_hour_498 ?_
      refine cr_iload X 4 rfl dL_hour_499 ?_
      refine cr_aload_n X 0 rfl dL_hour_501 ?_
      refine cr_iload X 4 rfl dL_hour_502 ?_
      refine cr_iconst X (2 : Int32) (by decide) dL_hour_504 ?_
      refine cr_iadd X dL_hour_505 ?_
      refine cr_iald X ((cr_n1 E hf).at (cr_row S0 f G 1) rfl) dL_hour_506 ?_
      refine cr_iastG X (cr_n1 E hf) (fun _ _ => rfl) dL_hour_507 (fun G507_18 => ?_)
      refine cr_iinc X (x13 + 1) (fun v508_19 => [(13, .int v508_19), (1, .ref (E.2.1 f 1)), (2, .ref (E.2.1 f 2)), (6, .ref (E.2.1 f 3)), (11, .int x11)]) 4 rfl rfl (fun _ => rfl) (by decide) dL_hour_508 (fun v508_19 => ?_)
      refine cr_goto X 486 dL_hour_511 rfl ?_
      refine cr_sub (lv' := [(1, .ref (E.2.1 f 1)), (2, .ref (E.2.1 f 2)), (6, .ref (E.2.1 f 3)), (11, .int x11), (13, .int v508_19)]) [1, 2, 3, 4, 0] rfl ?_
      exact ih x11 v508_19 G507_18
set_option maxHeartbeats 4000000 in
set_option maxRecDepth 100000 in
theorem b_L_hour_265 {Γ : cr_C} {E : cr_E} (X : cr_X Γ E cL_hour 16 RL wsL_hour rm_L_hour (some .int)) (S0 : cr_S) {f : Nat} (hf : cr_g E f) (k205 : Int32 → Int32 → Int32 → Int32 → Int32 → cr_G → Option (Int32 × cr_G)) (hk205 : ∀ (x8 : Int32) (x9 : Int32) (x10 : Int32) (x11 : Int32) (x12 : Int32) (G : cr_G), cr_P Γ E 16 (cr_F Γ E (cr_vIG S0 f)) 0 0 (cr_us S0 f G) 205 ([(0, .ref (E.2.1 f 0)), (1, .ref (E.2.1 f 1)), (2, .ref (E.2.1 f 2)), (4, .ref (E.2.1 11 1)), (6, .ref (E.2.1 f 3)), (8, .int x8), (9, .int x9), (10, .int x10), (11, .int x11), (12, .int x12)]) [] (k205 x8 x9 x10 x11 x12 G)) (x8 : Int32) (x9 : Int32) (x10 : Int32) (x11 : Int32) (x12 : Int32) (x13 : Int32) (x14 : Int32) (y0 : Int32) (G : cr_G) : cr_P Γ E 16 (cr_F Γ E (cr_vIG S0 f)) 0 0 (cr_us S0 f G) 265 ([(0, .ref (E.2.1 f 0)), (1, .ref (E.2.1 f 1)), (2, .ref (E.2.1 f 2)), (4, .ref (E.2.1 11 1)), (6, .ref (E.2.1 f 3)), (8, .int x8), (9, .int x9), (10, .int x10), (11, .int x11), (12, .int x12), (13, .int x13), (14, .int x14)]) ([.int y0]) (s_L_hour_265 (S0.1 11) k205 x8 x9 x10 x11 x12 x13 x14 y0 G) := by
  have hEK := X.2.2.2.2.2.2.1
  unfold s_L_hour_265
  refine cr_istore X ([(15, .int y0), (0, .ref (E.2.1 f 0)), (1, .ref (E.2.1 f 1)), (2, .ref (E.2.1 f 2)), (4, .ref (E.2.1 11 1)), (6, .ref (E.2.1 f 3)), (8, .int x8), (9, .int x9), (10, .int x10), (11, .int x11), (12, .int x12), (13, .int x13), (14, .int x14)]) rfl (by decide) dL_hour_265 ?_
  refine cr_aload_n X 1 rfl dL_hour_267 ?_
  refine cr_bipush X (7 : Int32) (by decide) dL_hour_268 ?_
  refine cr_iload X 10 rfl dL_hour_270 ?_
  refine cr_imul X dL_hour_272 ?_
  refine cr_iconst X (5 : Int32) (by decide) dL_hour_273 ?_
  refine cr_iadd X dL_hour_274 ?_
  refine cr_dup2 X rfl rfl dL_hour_275 ?_
  refine cr_iald X ((cr_n0 E hf).at (cr_row S0 f G 0) rfl) dL_hour_276 ?_
  refine cr_iload X 0 rfl dL_hour_277 ?_
  refine cr_iadd X dL_hour_279 ?_
  refine cr_iastG X (cr_n0 E hf) (fun _ _ => rfl) dL_hour_280 (fun G280_20 => ?_)
  refine cr_aload_n X 1 rfl dL_hour_281 ?_
  refine cr_bipush X (7 : Int32) (by decide) dL_hour_282 ?_
  refine cr_iload X 10 rfl dL_hour_284 ?_
  refine cr_imul X dL_hour_286 ?_
  refine cr_bipush X (6 : Int32) (by decide) dL_hour_287 ?_
  refine cr_iadd X dL_hour_289 ?_
  refine cr_dup2 X rfl rfl dL_hour_290 ?_
  refine cr_iald X ((cr_n0 E hf).at (cr_row S0 f G280_20 0) rfl) dL_hour_291 ?_
  refine cr_iload X 11 rfl dL_hour_292 ?_
  refine cr_iload X 0 rfl dL_hour_294 ?_
  refine cr_isub X dL_hour_296 ?_
  refine cr_iadd X dL_hour_297 ?_
  refine cr_iastG X (cr_n0 E hf) (fun _ _ => rfl) dL_hour_298 (fun G298_21 => ?_)
  refine cr_aload X 5 rfl dL_hour_299 ?_
  refine cr_bipush X (9 : Int32) (by decide) dL_hour_301 ?_
  refine cr_iload X 12 rfl dL_hour_303 ?_
  refine cr_iadd X dL_hour_305 ?_
  refine cr_dup2 X rfl rfl dL_hour_306 ?_
  refine cr_iald X ((cr_n3 E hf).at (cr_row S0 f G298_21 3) rfl) dL_hour_307 ?_
  refine cr_iload X 0 rfl dL_hour_308 ?_
  refine cr_iadd X dL_hour_310 ?_
  refine cr_iastG X (cr_n3 E hf) (fun _ _ => rfl) dL_hour_311 (fun G311_22 => ?_)
  refine cr_iload X 9 rfl dL_hour_312 ?_
  refine cr_iload X 0 rfl dL_hour_314 ?_
  refine cr_iadd X dL_hour_316 ?_
  refine cr_istoreb X (fun v317_23 => [(11, .int v317_23), (15, .int y0), (0, .ref (E.2.1 f 0)), (1, .ref (E.2.1 f 1)), (2, .ref (E.2.1 f 2)), (4, .ref (E.2.1 11 1)), (6, .ref (E.2.1 f 3)), (8, .int x8), (9, .int x9), (10, .int x10), (12, .int x12), (13, .int x13), (14, .int x14)]) (fun _ => rfl) (by decide) dL_hour_317 (fun v317_23 => ?_)
  refine cr_iload X 12 rfl dL_hour_319 ?_
  refine cr_iconst X (4 : Int32) (by decide) dL_hour_321 ?_
  refine cr_icmp_eq X 408 dL_hour_322 rfl ?_ ?_
  · refine cr_iinc X (x12 + 1) (fun v408_24 => [(12, .int v408_24), (11, .int v317_23), (15, .int y0), (0, .ref (E.2.1 f 0)), (1, .ref (E.2.1 f 1)), (2, .ref (E.2.1 f 2)), (4, .ref (E.2.1 11 1)), (6, .ref (E.2.1 f 3)), (8, .int x8), (9, .int x9), (10, .int x10), (13, .int x13), (14, .int x14)]) 10 rfl rfl (fun _ => rfl) (by decide) dL_hour_408 (fun v408_24 => ?_)
    refine cr_goto X 205 dL_hour_411 rfl ?_
    refine cr_sub (lv' := [(0, .ref (E.2.1 f 0)), (1, .ref (E.2.1 f 1)), (2, .ref (E.2.1 f 2)), (4, .ref (E.2.1 11 1)), (6, .ref (E.2.1 f 3)), (8, .int x8), (9, .int x9), (10, .int x10), (11, .int v317_23), (12, .int v408_24)]) [3, 4, 5, 6, 7, 8, 9, 10, 1, 0] rfl ?_
    exact hk205 x8 x9 x10 v317_23 v408_24 G311_22
  · refine cr_aload_n X 2 rfl dL_hour_325 ?_
    refine cr_bipush X (7 : Int32) (by decide) dL_hour_326 ?_
    refine cr_iload X 10 rfl dL_hour_328 ?_
    refine cr_imul X dL_hour_330 ?_
    refine cr_iconst X (3 : Int32) (by decide) dL_hour_331 ?_
    refine cr_iadd X dL_hour_332 ?_
    refine cr_iald X ((cr_n0 E hf).at (cr_row S0 f G311_22 0) rfl) dL_hour_333 ?_
    refine cr_if_eq X 408 dL_hour_334 rfl ?_ ?_
    · refine cr_iinc X (x12 + 1) (fun v408_25 => [(12, .int v408_25), (11, .int v317_23), (15, .int y0), (0, .ref (E.2.1 f 0)), (1, .ref (E.2.1 f 1)), (2, .ref (E.2.1 f 2)), (4, .ref (E.2.1 11 1)), (6, .ref (E.2.1 f 3)), (8, .int x8), (9, .int x9), (10, .int x10), (13, .int x13), (14, .int x14)]) 10 rfl rfl (fun _ => rfl) (by decide) dL_hour_408 (fun v408_25 => ?_)
      refine cr_goto X 205 dL_hour_411 rfl ?_
      refine cr_sub (lv' := [(0, .ref (E.2.1 f 0)), (1, .ref (E.2.1 f 1)), (2, .ref (E.2.1 f 2)), (4, .ref (E.2.1 11 1)), (6, .ref (E.2.1 f 3)), (8, .int x8), (9, .int x9), (10, .int x10), (11, .int v317_23), (12, .int v408_25)]) [3, 4, 5, 6, 7, 8, 9, 10, 1, 0] rfl ?_
      exact hk205 x8 x9 x10 v317_23 v408_25 G311_22
    · refine cr_aload_n X 2 rfl dL_hour_337 ?_
      refine cr_bipush X (7 : Int32) (by decide) dL_hour_338 ?_
      refine cr_iload X 10 rfl dL_hour_340 ?_
      refine cr_imul X dL_hour_342 ?_
      refine cr_iconst X (3 : Int32) (by decide) dL_hour_343 ?_
      refine cr_iadd X dL_hour_344 ?_
      refine cr_iald X ((cr_n0 E hf).at (cr_row S0 f G311_22 0) rfl) dL_hour_345 ?_
      refine cr_iconst X (4 : Int32) (by decide) dL_hour_346 ?_
      refine cr_icmp_ne X 353 dL_hour_347 rfl ?_ ?_
      · refine cr_aload_n X 2 rfl dL_hour_353 ?_
        refine cr_bipush X (7 : Int32) (by decide) dL_hour_354 ?_
        refine cr_iload X 10 rfl dL_hour_356 ?_
        refine cr_imul X dL_hour_358 ?_
        refine cr_iconst X (4 : Int32) (by decide) dL_hour_359 ?_
        refine cr_iadd X dL_hour_360 ?_
        refine cr_dup2 X rfl rfl dL_hour_361 ?_
        refine cr_iald X ((cr_n0 E hf).at (cr_row S0 f G311_22 0) rfl) dL_hour_362 ?_
        refine cr_iconst X (1 : Int32) (by decide) dL_hour_363 ?_
        refine cr_iadd X dL_hour_364 ?_
        refine cr_iastG X (cr_n0 E hf) (fun _ _ => rfl) dL_hour_365 (fun G365_26 => ?_)
        refine cr_aload_n X 2 rfl dL_hour_366 ?_
        refine cr_bipush X (7 : Int32) (by decide) dL_hour_367 ?_
        refine cr_iload X 10 rfl dL_hour_369 ?_
        refine cr_imul X dL_hour_371 ?_
        refine cr_iconst X (4 : Int32) (by decide) dL_hour_372 ?_
        refine cr_iadd X dL_hour_373 ?_
        refine cr_iald X ((cr_n0 E hf).at (cr_row S0 f G365_26 0) rfl) dL_hour_374 ?_
        refine cr_aload X 5 rfl dL_hour_375 ?_
        refine cr_iconst X (3 : Int32) (by decide) dL_hour_377 ?_
        refine cr_ialdk X 3 (by decide) (by decide) ((cr_k1 E).at (cr_rowo S0 G365_26 (cr_gne hf) 1) rfl) dL_hour_378 ?_
        refine cr_icmp_ge X 385 dL_hour_379 rfl ?_ ?_
        · refine cr_aload_n X 2 rfl dL_hour_385 ?_
          refine cr_bipush X (7 : Int32) (by decide) dL_hour_386 ?_
          refine cr_iload X 10 rfl dL_hour_388 ?_
          refine cr_imul X dL_hour_390 ?_
          refine cr_iconst X (3 : Int32) (by decide) dL_hour_391 ?_
          refine cr_iadd X dL_hour_392 ?_
          refine cr_dup2 X rfl rfl dL_hour_393 ?_
          refine cr_iald X ((cr_n0 E hf).at (cr_row S0 f G365_26 0) rfl) dL_hour_394 ?_
          refine cr_iconst X (1 : Int32) (by decide) dL_hour_395 ?_
          refine cr_iadd X dL_hour_396 ?_
          refine cr_iastG X (cr_n0 E hf) (fun _ _ => rfl) dL_hour_397 (fun G397_27 => ?_)
          refine cr_aload_n X 2 rfl dL_hour_398 ?_
          refine cr_bipush X (7 : Int32) (by decide) dL_hour_399 ?_
          refine cr_iload X 10 rfl dL_hour_401 ?_
          refine cr_imul X dL_hour_403 ?_
          refine cr_iconst X (4 : Int32) (by decide) dL_hour_404 ?_
          refine cr_iadd X dL_hour_405 ?_
          refine cr_iconst X (0 : Int32) (by decide) dL_hour_406 ?_
          refine cr_iastG X (cr_n0 E hf) (fun _ _ => rfl) dL_hour_407 (fun G407_28 => ?_)
          refine cr_iinc X (x12 + 1) (fun v408_29 => [(12, .int v408_29), (11, .int v317_23), (15, .int y0), (0, .ref (E.2.1 f 0)), (1, .ref (E.2.1 f 1)), (2, .ref (E.2.1 f 2)), (4, .ref (E.2.1 11 1)), (6, .ref (E.2.1 f 3)), (8, .int x8), (9, .int x9), (10, .int x10), (13, .int x13), (14, .int x14)]) 10 rfl rfl (fun _ => rfl) (by decide) dL_hour_408 (fun v408_29 => ?_)
          refine cr_goto X 205 dL_hour_411 rfl ?_
          refine cr_sub (lv' := [(0, .ref (E.2.1 f 0)), (1, .ref (E.2.1 f 1)), (2, .ref (E.2.1 f 2)), (4, .ref (E.2.1 11 1)), (6, .ref (E.2.1 f 3)), (8, .int x8), (9, .int x9), (10, .int x10), (11, .int v317_23), (12, .int v408_29)]) [3, 4, 5, 6, 7, 8, 9, 10, 1, 0] rfl ?_
          exact hk205 x8 x9 x10 v317_23 v408_29 G407_28
        · refine cr_goto X 408 dL_hour_382 rfl ?_
          refine cr_iinc X (x12 + 1) (fun v408_30 => [(12, .int v408_30), (11, .int v317_23), (15, .int y0), (0, .ref (E.2.1 f 0)), (1, .ref (E.2.1 f 1)), (2, .ref (E.2.1 f 2)), (4, .ref (E.2.1 11 1)), (6, .ref (E.2.1 f 3)), (8, .int x8), (9, .int x9), (10, .int x10), (13, .int x13), (14, .int x14)]) 10 rfl rfl (fun _ => rfl) (by decide) dL_hour_408 (fun v408_30 => ?_)
          refine cr_goto X 205 dL_hour_411 rfl ?_
          refine cr_sub (lv' := [(0, .ref (E.2.1 f 0)), (1, .ref (E.2.1 f 1)), (2, .ref (E.2.1 f 2)), (4, .ref (E.2.1 11 1)), (6, .ref (E.2.1 f 3)), (8, .int x8), (9, .int x9), (10, .int x10), (11, .int v317_23), (12, .int v408_30)]) [3, 4, 5, 6, 7, 8, 9, 10, 1, 0] rfl ?_
          exact hk205 x8 x9 x10 v317_23 v408_30 G365_26
      · refine cr_goto X 408 dL_hour_350 rfl ?_
        refine cr_iinc X (x12 + 1) (fun v408_31 => [(12, .int v408_31), (11, .int v317_23), (15, .int y0), (0, .ref (E.2.1 f 0)), (1, .ref (E.2.1 f 1)), (2, .ref (E.2.1 f 2)), (4, .ref (E.2.1 11 1)), (6, .ref (E.2.1 f 3)), (8, .int x8), (9, .int x9), (10, .int x10), (13, .int x13), (14, .int x14)]) 10 rfl rfl (fun _ => rfl) (by decide) dL_hour_408 (fun v408_31 => ?_)
        refine cr_goto X 205 dL_hour_411 rfl ?_
        refine cr_sub (lv' := [(0, .ref (E.2.1 f 0)), (1, .ref (E.2.1 f 1)), (2, .ref (E.2.1 f 2)), (4, .ref (E.2.1 11 1)), (6, .ref (E.2.1 f 3)), (8, .int x8), (9, .int x9), (10, .int x10), (11, .int v317_23), (12, .int v408_31)]) [3, 4, 5, 6, 7, 8, 9, 10, 1, 0] rfl ?_
        exact hk205 x8 x9 x10 v317_23 v408_31 G311_22
set_option maxHeartbeats 4000000 in
set_option maxRecDepth 100000 in
theorem b_L_hour_238 {Γ : cr_C} {E : cr_E} (X : cr_X Γ E cL_hour 16 RL wsL_hour rm_L_hour (some .int)) (S0 : cr_S) {f : Nat} (hf : cr_g E f) (k205 : Int32 → Int32 → Int32 → Int32 → Int32 → cr_G → Option (Int32 × cr_G)) (hk205 : ∀ (x8 : Int32) (x9 : Int32) (x10 : Int32) (x11 : Int32) (x12 : Int32) (G : cr_G), cr_P Γ E 16 (cr_F Γ E (cr_vIG S0 f)) 0 0 (cr_us S0 f G) 205 ([(0, .ref (E.2.1 f 0)), (1, .ref (E.2.1 f 1)), (2, .ref (E.2.1 f 2)), (4, .ref (E.2.1 11 1)), (6, .ref (E.2.1 f 3)), (8, .int x8), (9, .int x9), (10, .int x10), (11, .int x11), (12, .int x12)]) [] (k205 x8 x9 x10 x11 x12 G)) (x8 : Int32) (x9 : Int32) (x10 : Int32) (x11 : Int32) (x12 : Int32) (x13 : Int32) (y0 : Int32) (G : cr_G) : cr_P Γ E 16 (cr_F Γ E (cr_vIG S0 f)) 0 0 (cr_us S0 f G) 238 ([(0, .ref (E.2.1 f 0)), (1, .ref (E.2.1 f 1)), (2, .ref (E.2.1 f 2)), (4, .ref (E.2.1 11 1)), (6, .ref (E.2.1 f 3)), (8, .int x8), (9, .int x9), (10, .int x10), (11, .int x11), (12, .int x12), (13, .int x13)]) ([.int y0]) (s_L_hour_238 (S0.1 11) k205 x8 x9 x10 x11 x12 x13 y0 G) := by
  have hEK := X.2.2.2.2.2.2.1
  unfold s_L_hour_238
  refine cr_istore X ([(14, .int y0), (0, .ref (E.2.1 f 0)), (1, .ref (E.2.1 f 1)), (2, .ref (E.2.1 f 2)), (4, .ref (E.2.1 11 1)), (6, .ref (E.2.1 f 3)), (8, .int x8), (9, .int x9), (10, .int x10), (11, .int x11), (12, .int x12), (13, .int x13)]) rfl (by decide) dL_hour_238 ?_
  refine cr_iload X 0 rfl dL_hour_240 ?_
  refine cr_iconst X (4 : Int32) (by decide) dL_hour_242 ?_
  refine cr_icmp_ne X 251 dL_hour_243 rfl ?_ ?_
  · refine cr_iload X 11 rfl dL_hour_251 ?_
    refine cr_aload_n X 1 rfl dL_hour_253 ?_
    refine cr_bipush X (7 : Int32) (by decide) dL_hour_254 ?_
    refine cr_iload X 10 rfl dL_hour_256 ?_
    refine cr_imul X dL_hour_258 ?_
    refine cr_iconst X (3 : Int32) (by decide) dL_hour_259 ?_
    refine cr_iadd X dL_hour_260 ?_
    refine cr_iald X ((cr_n0 E hf).at (cr_row S0 f G 0) rfl) dL_hour_261 ?_
    refine cr_imul X dL_hour_262 ?_
    refine cr_iconst X (4 : Int32) (by decide) dL_hour_263 ?_
    refine cr_idivk X (by decide) dL_hour_264 ?_
    refine cr_sub (lv' := [(0, .ref (E.2.1 f 0)), (1, .ref (E.2.1 f 1)), (2, .ref (E.2.1 f 2)), (4, .ref (E.2.1 11 1)), (6, .ref (E.2.1 f 3)), (8, .int x8), (9, .int x9), (10, .int x10), (11, .int x11), (12, .int x12), (13, .int x13), (14, .int y0)]) [1, 2, 3, 4, 5, 6, 7, 8, 9, 10, 11, 0] rfl ?_
    exact b_L_hour_265 X S0 hf k205 hk205 x8 x9 x10 x11 x12 x13 y0 (((x13 * ((G 0) ((((7 : Int32) * x12) + (3 : Int32))).toNatClampNeg)) / (4 : Int32))) G
  · refine cr_iload X 11 rfl dL_hour_246 ?_
    refine cr_goto X 265 dL_hour_248 rfl ?_
    refine cr_sub (lv' := [(0, .ref (E.2.1 f 0)), (1, .ref (E.2.1 f 1)), (2, .ref (E.2.1 f 2)), (4, .ref (E.2.1 11 1)), (6, .ref (E.2.1 f 3)), (8, .int x8), (9, .int x9), (10, .int x10), (11, .int x11), (12, .int x12), (13, .int x13), (14, .int y0)]) [1, 2, 3, 4, 5, 6, 7, 8, 9, 10, 11, 0] rfl ?_
    exact b_L_hour_265 X S0 hf k205 hk205 x8 x9 x10 x11 x12 x13 y0 x13 G
set_option maxHeartbeats 4000000 in
set_option maxRecDepth 100000 in
theorem b_L_hour_205 {Γ : cr_C} {E : cr_E} (X : cr_X Γ E cL_hour 16 RL wsL_hour rm_L_hour (some .int)) (S0 : cr_S) {f : Nat} (hf : cr_g E f) : ∀ (n : Nat) (x8 : Int32) (x9 : Int32) (x10 : Int32) (x11 : Int32) (x12 : Int32) (G : cr_G), cr_P Γ E 16 (cr_F Γ E (cr_vIG S0 f)) 0 0 (cr_us S0 f G) 205 ([(0, .ref (E.2.1 f 0)), (1, .ref (E.2.1 f 1)), (2, .ref (E.2.1 f 2)), (4, .ref (E.2.1 11 1)), (6, .ref (E.2.1 f 3)), (8, .int x8), (9, .int x9), (10, .int x10), (11, .int x11), (12, .int x12)]) ([]) (s_L_hour_205 (S0.1 11) n x8 x9 x10 x11 x12 G) := by
  have hEK := X.2.2.2.2.2.2.1
  intro n
  induction n with
  | zero => intro x8 x9 x10 x11 x12 G; exact cr_none
  | succ n ih =>
    intro x8 x9 x10 x11 x12 G
    rw [s_L_hour_205]
    refine cr_iload X 9 rfl dL_hour_205 ?_
    refine cr_aload X 4 rfl dL_hour_207 ?_
    refine cr_bipush X (6 : Int32) (by decide) dL_hour_209 ?_
    refine cr_ialdk X 6 (by decide) (by decide) ((cr_n3 E hf).at (cr_row S0 f G 3) rfl) dL_hour_211 ?_
    refine cr_icmp_ge X 414 dL_hour_212 rfl ?_ ?_
    · refine cr_iload X 7 rfl dL_hour_414 ?_
      refine cr_iconst X (4 : Int32) (by decide) dL_hour_416 ?_
      refine cr_icmp_ne X 529 dL_hour_417 rfl ?_ ?_
      · refine cr_sub (lv' := [(6, .ref (E.2.1 f 3)), (11, .int x11)]) [4, 8] rfl ?_
        exact b_L_hour_529 X S0 hf x11 G
      · refine cr_aload X 4 rfl dL_hour_420 ?_
        refine cr_iconst X (3 : Int32) (by decide) dL_hour_422 ?_
        refine cr_ialdk X 3 (by decide) (by decide) ((cr_n3 E hf).at (cr_row S0 f G 3) rfl) dL_hour_423 ?_
        refine cr_aload X 3 rfl dL_hour_424 ?_
        refine cr_iconst X (2 : Int32) (by decide) dL_hour_426 ?_
        refine cr_ialdk X 2 (by decide) (by decide) ((cr_k1 E).at (cr_rowo S0 G (cr_gne hf) 1) rfl) dL_hour_427 ?_
        refine cr_aload_n X 0 rfl dL_hour_428 ?_
        refine cr_bipush X (7 : Int32) (by decide) dL_hour_429 ?_
        refine cr_iload X 6 rfl dL_hour_431 ?_
        refine cr_imul X dL_hour_433 ?_
        refine cr_iconst X (3 : Int32) (by decide) dL_hour_434 ?_
        refine cr_iadd X dL_hour_435 ?_
        refine cr_iald X ((cr_n0 E hf).at (cr_row S0 f G 0) rfl) dL_hour_436 ?_
        refine cr_imul X dL_hour_437 ?_
        refine cr_icmp_lt X 529 dL_hour_438 rfl ?_ ?_
        · refine cr_sub (lv' := [(6, .ref (E.2.1 f 3)), (11, .int x11)]) [4, 8] rfl ?_
          exact b_L_hour_529 X S0 hf x11 G
        · refine cr_aload_n X 0 rfl dL_hour_441 ?_
          refine cr_bipush X (7 : Int32) (by decide) dL_hour_442 ?_
          refine cr_iload X 6 rfl dL_hour_444 ?_
          refine cr_imul X dL_hour_446 ?_
          refine cr_iconst X (3 : Int32) (by decide) dL_hour_447 ?_
          refine cr_iadd X dL_hour_448 ?_
          refine cr_iconst X (0 : Int32) (by decide) dL_hour_449 ?_
          refine cr_iastG X (cr_n0 E hf) (fun _ _ => rfl) dL_hour_450 (fun G450_8 => ?_)
          refine cr_aload_n X 0 rfl dL_hour_451 ?_
          refine cr_bipush X (7 : Int32) (by decide) dL_hour_452 ?_
          refine cr_iload X 6 rfl dL_hour_454 ?_
          refine cr_imul X dL_hour_456 ?_
          refine cr_iconst X (4 : Int32) (by decide) dL_hour_457 ?_
          refine cr_iadd X dL_hour_458 ?_
          refine cr_iconst X (0 : Int32) (by decide) dL_hour_459 ?_
          refine cr_iastG X (cr_n0 E hf) (fun _ _ => rfl) dL_hour_460 (fun G460_9 => ?_)
          refine cr_iload X 6 rfl dL_hour_461 ?_
          refine cr_aload_n X 1 rfl dL_hour_463 ?_
          refine cr_aload X 4 rfl dL_hour_464 ?_
          refine cr_callS X (As := [.int x9, .ref (E.2.1 f 1), .ref (E.2.1 f 3)]) (rest := []) (c_L_ready Γ.2.1 E hEK S0 hf G460_9 x9) 3 gL_hour_L_ready rfl rfl rfl (by decide +kernel) ⟨Nat.le_of_ble_eq_true rfl, Nat.le_of_ble_eq_true rfl⟩ (by decide) rfl rfl (Nat.le_of_ble_eq_true rfl) dL_hour_466 (fun r466_10 => ?_)
          show cr_P Γ E 16 _ 0 0 (cr_us S0 f G460_9) 469 ([(0, .ref (E.2.1 f 0)), (1, .ref (E.2.1 f 1)), (2, .ref (E.2.1 f 2)), (4, .ref (E.2.1 11 1)), (6, .ref (E.2.1 f 3)), (8, .int x8), (9, .int x9), (10, .int x10), (11, .int x11), (12, .int x12)]) ([.int r466_10]) _
          refine cr_istore X ([(12, .int r466_10), (0, .ref (E.2.1 f 0)), (1, .ref (E.2.1 f 1)), (2, .ref (E.2.1 f 2)), (4, .ref (E.2.1 11 1)), (6, .ref (E.2.1 f 3)), (8, .int x8), (9, .int x9), (10, .int x10), (11, .int x11)]) rfl (by decide) dL_hour_469 ?_
          refine cr_aload X 5 rfl dL_hour_471 ?_
          refine cr_bipush X (7 : Int32) (by decide) dL_hour_473 ?_
          refine cr_dup2 X rfl rfl dL_hour_475 ?_
          refine cr_ialdk X 7 (by decide) (by decide) ((cr_n3 E hf).at (cr_row S0 f G460_9 3) rfl) dL_hour_476 ?_
          refine cr_iconst X (1 : Int32) (by decide) dL_hour_477 ?_
          refine cr_isub X dL_hour_478 ?_
          refine cr_iastGk X 7 (cr_n3 E hf) (fun _ _ => rfl) (by decide) (by decide) dL_hour_479 (fun G479_11 => ?_)
          refine cr_iconst X (2 : Int32) (by decide) dL_hour_480 ?_
          refine cr_iload X 0 rfl dL_hour_481 ?_
          refine cr_imul X dL_hour_483 ?_
          refine cr_istoreb X (fun v484_12 => [(13, .int v484_12), (12, .int r466_10), (0, .ref (E.2.1 f 0)), (1, .ref (E.2.1 f 1)), (2, .ref (E.2.1 f 2)), (4, .ref (E.2.1 11 1)), (6, .ref (E.2.1 f 3)), (8, .int x8), (9, .int x9), (10, .int x10), (11, .int x11)]) (fun _ => rfl) (by decide) dL_hour_484 (fun v484_12 => ?_)
          refine cr_sub (lv' := [(1, .ref (E.2.1 f 1)), (2, .ref (E.2.1 f 2)), (6, .ref (E.2.1 f 3)), (11, .int x11), (13, .int v484_12)]) [3, 4, 6, 10, 0] rfl ?_
          exact b_L_hour_486 X S0 hf 1200 x11 v484_12 G479_11
    · refine cr_iload X 9 rfl dL_hour_215 ?_
      refine cr_iload X 5 rfl dL_hour_217 ?_
      refine cr_aload_n X 0 rfl dL_hour_219 ?_
      refine cr_callS X (As := [.int x12, .int x8, .ref (E.2.1 f 0)]) (rest := []) (c_L_power Γ.2.1 E hEK S0 hf G x12 x8) 3 gL_hour_L_power rfl rfl rfl (by decide +kernel) ⟨Nat.le_of_ble_eq_true rfl, Nat.le_of_ble_eq_true rfl⟩ (by decide) rfl rfl (Nat.le_of_ble_eq_true rfl) dL_hour_220 (fun r220_13 => ?_)
      show cr_P Γ E 16 _ 0 0 (cr_us S0 f G) 223 ([(0, .ref (E.2.1 f 0)), (1, .ref (E.2.1 f 1)), (2, .ref (E.2.1 f 2)), (4, .ref (E.2.1 11 1)), (6, .ref (E.2.1 f 3)), (8, .int x8), (9, .int x9), (10, .int x10), (11, .int x11), (12, .int x12)]) ([.int r220_13]) _
      refine cr_istore X ([(13, .int r220_13), (0, .ref (E.2.1 f 0)), (1, .ref (E.2.1 f 1)), (2, .ref (E.2.1 f 2)), (4, .ref (E.2.1 11 1)), (6, .ref (E.2.1 f 3)), (8, .int x8), (9, .int x9), (10, .int x10), (11, .int x11), (12, .int x12)]) rfl (by decide) dL_hour_223 ?_
      refine cr_iload X 10 rfl dL_hour_225 ?_
      refine cr_iload X 7 rfl dL_hour_227 ?_
      refine cr_icmp_ne X 237 dL_hour_229 rfl ?_ ?_
      · refine cr_iconst X (0 : Int32) (by decide) dL_hour_237 ?_
        refine cr_sub (lv' := [(0, .ref (E.2.1 f 0)), (1, .ref (E.2.1 f 1)), (2, .ref (E.2.1 f 2)), (4, .ref (E.2.1 11 1)), (6, .ref (E.2.1 f 3)), (8, .int x8), (9, .int x9), (10, .int x10), (11, .int x11), (12, .int x12), (13, .int r220_13)]) [1, 2, 3, 4, 5, 6, 7, 8, 9, 10, 0] rfl ?_
        exact b_L_hour_238 X S0 hf (fun x8a x9a x10a x11a x12a Ga => s_L_hour_205 (S0.1 11) n x8a x9a x10a x11a x12a Ga) ih x8 x9 x10 x11 x12 r220_13 ((0 : Int32)) G
      · refine cr_iload X 8 rfl dL_hour_232 ?_
        refine cr_goto X 238 dL_hour_234 rfl ?_
        refine cr_sub (lv' := [(0, .ref (E.2.1 f 0)), (1, .ref (E.2.1 f 1)), (2, .ref (E.2.1 f 2)), (4, .ref (E.2.1 11 1)), (6, .ref (E.2.1 f 3)), (8, .int x8), (9, .int x9), (10, .int x10), (11, .int x11), (12, .int x12), (13, .int r220_13)]) [1, 2, 3, 4, 5, 6, 7, 8, 9, 10, 0] rfl ?_
        exact b_L_hour_238 X S0 hf (fun x8a x9a x10a x11a x12a Ga => s_L_hour_205 (S0.1 11) n x8a x9a x10a x11a x12a Ga) ih x8 x9 x10 x11 x12 r220_13 x10 G
set_option maxHeartbeats 4000000 in
set_option maxRecDepth 100000 in
theorem b_L_hour_171 {Γ : cr_C} {E : cr_E} (X : cr_X Γ E cL_hour 16 RL wsL_hour rm_L_hour (some .int)) (S0 : cr_S) {f : Nat} (hf : cr_g E f) (x8 : Int32) (y0 : Int32) (G : cr_G) : cr_P Γ E 16 (cr_F Γ E (cr_vIG S0 f)) 0 0 (cr_us S0 f G) 171 ([(0, .ref (E.2.1 f 0)), (1, .ref (E.2.1 f 1)), (2, .ref (E.2.1 f 2)), (4, .ref (E.2.1 11 1)), (5, .ref (E.2.1 11 2)), (6, .ref (E.2.1 f 3)), (8, .int x8)]) ([.int y0]) (s_L_hour_171 (S0.1 11) x8 y0 G) := by
  have hEK := X.2.2.2.2.2.2.1
  unfold s_L_hour_171
  refine cr_istore X ([(9, .int y0), (0, .ref (E.2.1 f 0)), (1, .ref (E.2.1 f 1)), (2, .ref (E.2.1 f 2)), (4, .ref (E.2.1 11 1)), (5, .ref (E.2.1 11 2)), (6, .ref (E.2.1 f 3)), (8, .int x8)]) rfl (by decide) dL_hour_171 ?_
  refine cr_iload X 0 rfl dL_hour_173 ?_
  refine cr_if_ge X 182 dL_hour_175 rfl ?_ ?_
  · refine cr_iload X 0 rfl dL_hour_182 ?_
    refine cr_iload X 7 rfl dL_hour_184 ?_
    refine cr_aload_n X 1 rfl dL_hour_186 ?_
    refine cr_aload_n X 2 rfl dL_hour_187 ?_
    refine cr_aload X 4 rfl dL_hour_188 ?_
    refine cr_aload X 5 rfl dL_hour_190 ?_
    refine cr_aload X 6 rfl dL_hour_192 ?_
    refine cr_callS X (As := [.int y0, .int x8, .ref (E.2.1 f 0), .ref (E.2.1 f 1), .ref (E.2.1 11 1), .ref (E.2.1 11 2), .ref (E.2.1 f 3)]) (rest := []) (c_L_serve Γ.2.1 E hEK S0 hf G y0 x8) 7 gL_hour_L_serve rfl rfl rfl (by decide +kernel) ⟨Nat.le_of_ble_eq_true rfl, Nat.le_of_ble_eq_true rfl⟩ (by decide) rfl rfl (Nat.le_of_ble_eq_true rfl) dL_hour_194 (fun r194_7 => ?_)
    show cr_P Γ E 16 _ 0 0 (cr_us S0 f r194_7.2) 197 ([(9, .int y0), (0, .ref (E.2.1 f 0)), (1, .ref (E.2.1 f 1)), (2, .ref (E.2.1 f 2)), (4, .ref (E.2.1 11 1)), (5, .ref (E.2.1 11 2)), (6, .ref (E.2.1 f 3)), (8, .int x8)]) ([.int r194_7.1]) _
    refine cr_istore X ([(10, .int r194_7.1), (9, .int y0), (0, .ref (E.2.1 f 0)), (1, .ref (E.2.1 f 1)), (2, .ref (E.2.1 f 2)), (4, .ref (E.2.1 11 1)), (5, .ref (E.2.1 11 2)), (6, .ref (E.2.1 f 3)), (8, .int x8)]) rfl (by decide) dL_hour_197 ?_
    refine cr_iconst X (0 : Int32) (by decide) dL_hour_199 ?_
    refine cr_istore X ([(11, .int ((0 : Int32))), (10, .int r194_7.1), (9, .int y0), (0, .ref (E.2.1 f 0)), (1, .ref (E.2.1 f 1)), (2, .ref (E.2.1 f 2)), (4, .ref (E.2.1 11 1)), (5, .ref (E.2.1 11 2)), (6, .ref (E.2.1 f 3)), (8, .int x8)]) rfl (by decide) dL_hour_200 ?_
    refine cr_iconst X (0 : Int32) (by decide) dL_hour_202 ?_
    refine cr_istore X ([(12, .int ((0 : Int32))), (11, .int ((0 : Int32))), (10, .int r194_7.1), (9, .int y0), (0, .ref (E.2.1 f 0)), (1, .ref (E.2.1 f 1)), (2, .ref (E.2.1 f 2)), (4, .ref (E.2.1 11 1)), (5, .ref (E.2.1 11 2)), (6, .ref (E.2.1 f 3)), (8, .int x8)]) rfl (by decide) dL_hour_203 ?_
    refine cr_sub (lv' := [(0, .ref (E.2.1 f 0)), (1, .ref (E.2.1 f 1)), (2, .ref (E.2.1 f 2)), (4, .ref (E.2.1 11 1)), (6, .ref (E.2.1 f 3)), (8, .int x8), (9, .int y0), (10, .int r194_7.1), (11, .int ((0 : Int32))), (12, .int ((0 : Int32)))]) [4, 5, 6, 7, 9, 10, 3, 2, 1, 0] rfl ?_
    exact b_L_hour_205 X S0 hf 1200 x8 y0 r194_7.1 ((0 : Int32)) ((0 : Int32)) r194_7.2
  · refine cr_iconst X (0 : Int32) (by decide) dL_hour_178 ?_
    refine cr_goto X 197 dL_hour_179 rfl ?_
    refine cr_istore X ([(10, .int ((0 : Int32))), (9, .int y0), (0, .ref (E.2.1 f 0)), (1, .ref (E.2.1 f 1)), (2, .ref (E.2.1 f 2)), (4, .ref (E.2.1 11 1)), (5, .ref (E.2.1 11 2)), (6, .ref (E.2.1 f 3)), (8, .int x8)]) rfl (by decide) dL_hour_197 ?_
    refine cr_iconst X (0 : Int32) (by decide) dL_hour_199 ?_
    refine cr_istore X ([(11, .int ((0 : Int32))), (10, .int ((0 : Int32))), (9, .int y0), (0, .ref (E.2.1 f 0)), (1, .ref (E.2.1 f 1)), (2, .ref (E.2.1 f 2)), (4, .ref (E.2.1 11 1)), (5, .ref (E.2.1 11 2)), (6, .ref (E.2.1 f 3)), (8, .int x8)]) rfl (by decide) dL_hour_200 ?_
    refine cr_iconst X (0 : Int32) (by decide) dL_hour_202 ?_
    refine cr_istore X ([(12, .int ((0 : Int32))), (11, .int ((0 : Int32))), (10, .int ((0 : Int32))), (9, .int y0), (0, .ref (E.2.1 f 0)), (1, .ref (E.2.1 f 1)), (2, .ref (E.2.1 f 2)), (4, .ref (E.2.1 11 1)), (5, .ref (E.2.1 11 2)), (6, .ref (E.2.1 f 3)), (8, .int x8)]) rfl (by decide) dL_hour_203 ?_
    refine cr_sub (lv' := [(0, .ref (E.2.1 f 0)), (1, .ref (E.2.1 f 1)), (2, .ref (E.2.1 f 2)), (4, .ref (E.2.1 11 1)), (6, .ref (E.2.1 f 3)), (8, .int x8), (9, .int y0), (10, .int ((0 : Int32))), (11, .int ((0 : Int32))), (12, .int ((0 : Int32)))]) [4, 5, 6, 7, 9, 10, 3, 2, 1, 0] rfl ?_
    exact b_L_hour_205 X S0 hf 1200 x8 y0 ((0 : Int32)) ((0 : Int32)) ((0 : Int32)) G
set_option maxHeartbeats 4000000 in
set_option maxRecDepth 100000 in
theorem b_L_hour_148 {Γ : cr_C} {E : cr_E} (X : cr_X Γ E cL_hour 16 RL wsL_hour rm_L_hour (some .int)) (S0 : cr_S) {f : Nat} (hf : cr_g E f)  (G : cr_G) : cr_P Γ E 16 (cr_F Γ E (cr_vIG S0 f)) 0 0 (cr_us S0 f G) 148 ([(0, .ref (E.2.1 f 0)), (1, .ref (E.2.1 f 1)), (2, .ref (E.2.1 f 2)), (3, .ref (E.2.1 11 0)), (4, .ref (E.2.1 11 1)), (5, .ref (E.2.1 11 2)), (6, .ref (E.2.1 f 3))]) ([]) (s_L_hour_148 (S0.1 11) G) := by
  have hEK := X.2.2.2.2.2.2.1
  unfold s_L_hour_148
  refine cr_aload X 6 rfl dL_hour_148 ?_
  refine cr_iconst X (5 : Int32) (by decide) dL_hour_150 ?_
  refine cr_ialdk X 5 (by decide) (by decide) ((cr_n3 E hf).at (cr_row S0 f G 3) rfl) dL_hour_151 ?_
  refine cr_aload_n X 3 rfl dL_hour_152 ?_
  refine cr_callS X (As := [.int (((G 3) 5)), .ref (E.2.1 11 0)]) (rest := []) (c_L_wind Γ.2.1 E hEK S0 hf G (((G 3) 5))) 2 gL_hour_L_wind rfl rfl rfl (by decide +kernel) ⟨Nat.le_of_ble_eq_true rfl, Nat.le_of_ble_eq_true rfl⟩ (by decide) rfl rfl (Nat.le_of_ble_eq_true rfl) dL_hour_153 (fun r153_6 => ?_)
  show cr_P Γ E 16 _ 0 0 (cr_us S0 f G) 156 ([(0, .ref (E.2.1 f 0)), (1, .ref (E.2.1 f 1)), (2, .ref (E.2.1 f 2)), (3, .ref (E.2.1 11 0)), (4, .ref (E.2.1 11 1)), (5, .ref (E.2.1 11 2)), (6, .ref (E.2.1 f 3))]) ([.int r153_6]) _
  refine cr_istore X ([(8, .int r153_6), (0, .ref (E.2.1 f 0)), (1, .ref (E.2.1 f 1)), (2, .ref (E.2.1 f 2)), (3, .ref (E.2.1 11 0)), (4, .ref (E.2.1 11 1)), (5, .ref (E.2.1 11 2)), (6, .ref (E.2.1 f 3))]) rfl (by decide) dL_hour_156 ?_
  refine cr_aload_n X 3 rfl dL_hour_158 ?_
  refine cr_iconst X (0 : Int32) (by decide) dL_hour_159 ?_
  refine cr_ialdk X 0 (by decide) (by decide) ((cr_n2 E hf).at (cr_row S0 f G 2) rfl) dL_hour_160 ?_
  refine cr_if_le X 170 dL_hour_161 rfl ?_ ?_
  · refine cr_iconst X (-1 : Int32) (by decide) dL_hour_170 ?_
    refine cr_sub (lv' := [(0, .ref (E.2.1 f 0)), (1, .ref (E.2.1 f 1)), (2, .ref (E.2.1 f 2)), (4, .ref (E.2.1 11 1)), (5, .ref (E.2.1 11 2)), (6, .ref (E.2.1 f 3)), (8, .int r153_6)]) [1, 2, 3, 5, 6, 7, 0] rfl ?_
    exact b_L_hour_171 X S0 hf r153_6 ((-1 : Int32)) G
  · refine cr_aload_n X 3 rfl dL_hour_164 ?_
    refine cr_iconst X (1 : Int32) (by decide) dL_hour_165 ?_
    refine cr_ialdk X 1 (by decide) (by decide) ((cr_n2 E hf).at (cr_row S0 f G 2) rfl) dL_hour_166 ?_
    refine cr_goto X 171 dL_hour_167 rfl ?_
    refine cr_sub (lv' := [(0, .ref (E.2.1 f 0)), (1, .ref (E.2.1 f 1)), (2, .ref (E.2.1 f 2)), (4, .ref (E.2.1 11 1)), (5, .ref (E.2.1 11 2)), (6, .ref (E.2.1 f 3)), (8, .int r153_6)]) [1, 2, 3, 5, 6, 7, 0] rfl ?_
    exact b_L_hour_171 X S0 hf r153_6 (((G 2) 1)) G
set_option maxHeartbeats 4000000 in
set_option maxRecDepth 100000 in
theorem b_L_hour_128 {Γ : cr_C} {E : cr_E} (X : cr_X Γ E cL_hour 16 RL wsL_hour rm_L_hour (some .int)) (S0 : cr_S) {f : Nat} (hf : cr_g E f) (k94 : cr_G → Option (Int32 × cr_G)) (hk94 : ∀  (G : cr_G), cr_P Γ E 16 (cr_F Γ E (cr_vIG S0 f)) 0 0 (cr_us S0 f G) 94 ([(0, .ref (E.2.1 f 0)), (1, .ref (E.2.1 f 1)), (2, .ref (E.2.1 f 2)), (3, .ref (E.2.1 11 0)), (4, .ref (E.2.1 11 1)), (5, .ref (E.2.1 11 2)), (6, .ref (E.2.1 f 3))]) [] (k94 G))  (G : cr_G) : cr_P Γ E 16 (cr_F Γ E (cr_vIG S0 f)) 0 0 (cr_us S0 f G) 128 ([(0, .ref (E.2.1 f 0)), (1, .ref (E.2.1 f 1)), (2, .ref (E.2.1 f 2)), (3, .ref (E.2.1 11 0)), (4, .ref (E.2.1 11 1)), (5, .ref (E.2.1 11 2)), (6, .ref (E.2.1 f 3))]) ([]) (s_L_hour_128 (S0.1 11) k94 G) := by
  have hEK := X.2.2.2.2.2.2.1
  unfold s_L_hour_128
  refine cr_iconst X (0 : Int32) (by decide) dL_hour_128 ?_
  refine cr_aload_n X 2 rfl dL_hour_129 ?_
  refine cr_callS X (As := [.int ((0 : Int32)), .ref (E.2.1 f 2)]) (rest := []) (c_L_off Γ.2.1 E hEK S0 hf G ((0 : Int32))) 2 gL_hour_L_off rfl rfl rfl (by decide +kernel) ⟨Nat.le_of_ble_eq_true rfl, Nat.le_of_ble_eq_true rfl⟩ (by decide) rfl rfl (Nat.le_of_ble_eq_true rfl) dL_hour_130 (fun r130_32 => ?_)
  show cr_P Γ E 16 _ 0 0 (cr_us S0 f r130_32) 133 ([(0, .ref (E.2.1 f 0)), (1, .ref (E.2.1 f 1)), (2, .ref (E.2.1 f 2)), (3, .ref (E.2.1 11 0)), (4, .ref (E.2.1 11 1)), (5, .ref (E.2.1 11 2)), (6, .ref (E.2.1 f 3))]) ([]) _
  refine cr_goto X 94 dL_hour_133 rfl ?_
  refine cr_sub (lv' := [(0, .ref (E.2.1 f 0)), (1, .ref (E.2.1 f 1)), (2, .ref (E.2.1 f 2)), (3, .ref (E.2.1 11 0)), (4, .ref (E.2.1 11 1)), (5, .ref (E.2.1 11 2)), (6, .ref (E.2.1 f 3))]) [0, 1, 2, 3, 4, 5, 6] rfl ?_
  exact hk94 r130_32
set_option maxHeartbeats 4000000 in
set_option maxRecDepth 100000 in
theorem b_L_hour_94 {Γ : cr_C} {E : cr_E} (X : cr_X Γ E cL_hour 16 RL wsL_hour rm_L_hour (some .int)) (S0 : cr_S) {f : Nat} (hf : cr_g E f) : ∀ (n : Nat)  (G : cr_G), cr_P Γ E 16 (cr_F Γ E (cr_vIG S0 f)) 0 0 (cr_us S0 f G) 94 ([(0, .ref (E.2.1 f 0)), (1, .ref (E.2.1 f 1)), (2, .ref (E.2.1 f 2)), (3, .ref (E.2.1 11 0)), (4, .ref (E.2.1 11 1)), (5, .ref (E.2.1 11 2)), (6, .ref (E.2.1 f 3))]) ([]) (s_L_hour_94 (S0.1 11) n G) := by
  have hEK := X.2.2.2.2.2.2.1
  intro n
  induction n with
  | zero => intro  G; exact cr_none
  | succ n ih =>
    intro  G
    rw [s_L_hour_94]
    refine cr_aload_n X 2 rfl dL_hour_94 ?_
    refine cr_iconst X (0 : Int32) (by decide) dL_hour_95 ?_
    refine cr_ialdk X 0 (by decide) (by decide) ((cr_n2 E hf).at (cr_row S0 f G 2) rfl) dL_hour_96 ?_
    refine cr_if_le X 136 dL_hour_97 rfl ?_ ?_
    · refine cr_aload X 6 rfl dL_hour_136 ?_
      refine cr_iconst X (4 : Int32) (by decide) dL_hour_138 ?_
      refine cr_ialdk X 4 (by decide) (by decide) ((cr_n3 E hf).at (cr_row S0 f G 3) rfl) dL_hour_139 ?_
      refine cr_if_ge X 148 dL_hour_140 rfl ?_ ?_
      · refine cr_sub (lv' := [(0, .ref (E.2.1 f 0)), (1, .ref (E.2.1 f 1)), (2, .ref (E.2.1 f 2)), (3, .ref (E.2.1 11 0)), (4, .ref (E.2.1 11 1)), (5, .ref (E.2.1 11 2)), (6, .ref (E.2.1 f 3))]) [0, 1, 2, 3, 4, 5, 6] rfl ?_
        exact b_L_hour_148 X S0 hf G
      · refine cr_aload X 6 rfl dL_hour_143 ?_
        refine cr_iconst X (3 : Int32) (by decide) dL_hour_145 ?_
        refine cr_iconst X (0 : Int32) (by decide) dL_hour_146 ?_
        refine cr_iastGk X 3 (cr_n3 E hf) (fun _ _ => rfl) (by decide) (by decide) dL_hour_147 (fun G147_3 => ?_)
        refine cr_sub (lv' := [(0, .ref (E.2.1 f 0)), (1, .ref (E.2.1 f 1)), (2, .ref (E.2.1 f 2)), (3, .ref (E.2.1 11 0)), (4, .ref (E.2.1 11 1)), (5, .ref (E.2.1 11 2)), (6, .ref (E.2.1 f 3))]) [0, 1, 2, 3, 4, 5, 6] rfl ?_
        exact b_L_hour_148 X S0 hf G147_3
    · refine cr_aload_n X 0 rfl dL_hour_100 ?_
      refine cr_bipush X (7 : Int32) (by decide) dL_hour_101 ?_
      refine cr_aload_n X 2 rfl dL_hour_103 ?_
      refine cr_iconst X (1 : Int32) (by decide) dL_hour_104 ?_
      refine cr_ialdk X 1 (by decide) (by decide) ((cr_n2 E hf).at (cr_row S0 f G 2) rfl) dL_hour_105 ?_
      refine cr_imul X dL_hour_106 ?_
      refine cr_iconst X (3 : Int32) (by decide) dL_hour_107 ?_
      refine cr_iadd X dL_hour_108 ?_
      refine cr_iald X ((cr_n0 E hf).at (cr_row S0 f G 0) rfl) dL_hour_109 ?_
      refine cr_if_ne X 136 dL_hour_110 rfl ?_ ?_
      · refine cr_aload X 6 rfl dL_hour_136 ?_
        refine cr_iconst X (4 : Int32) (by decide) dL_hour_138 ?_
        refine cr_ialdk X 4 (by decide) (by decide) ((cr_n3 E hf).at (cr_row S0 f G 3) rfl) dL_hour_139 ?_
        refine cr_if_ge X 148 dL_hour_140 rfl ?_ ?_
        · refine cr_sub (lv' := [(0, .ref (E.2.1 f 0)), (1, .ref (E.2.1 f 1)), (2, .ref (E.2.1 f 2)), (3, .ref (E.2.1 11 0)), (4, .ref (E.2.1 11 1)), (5, .ref (E.2.1 11 2)), (6, .ref (E.2.1 f 3))]) [0, 1, 2, 3, 4, 5, 6] rfl ?_
          exact b_L_hour_148 X S0 hf G
        · refine cr_aload X 6 rfl dL_hour_143 ?_
          refine cr_iconst X (3 : Int32) (by decide) dL_hour_145 ?_
          refine cr_iconst X (0 : Int32) (by decide) dL_hour_146 ?_
          refine cr_iastGk X 3 (cr_n3 E hf) (fun _ _ => rfl) (by decide) (by decide) dL_hour_147 (fun G147_4 => ?_)
          refine cr_sub (lv' := [(0, .ref (E.2.1 f 0)), (1, .ref (E.2.1 f 1)), (2, .ref (E.2.1 f 2)), (3, .ref (E.2.1 11 0)), (4, .ref (E.2.1 11 1)), (5, .ref (E.2.1 11 2)), (6, .ref (E.2.1 f 3))]) [0, 1, 2, 3, 4, 5, 6] rfl ?_
          exact b_L_hour_148 X S0 hf G147_4
      · refine cr_aload_n X 2 rfl dL_hour_113 ?_
        refine cr_iconst X (1 : Int32) (by decide) dL_hour_114 ?_
        refine cr_ialdk X 1 (by decide) (by decide) ((cr_n2 E hf).at (cr_row S0 f G 2) rfl) dL_hour_115 ?_
        refine cr_aload X 6 rfl dL_hour_116 ?_
        refine cr_iconst X (4 : Int32) (by decide) dL_hour_118 ?_
        refine cr_ialdk X 4 (by decide) (by decide) ((cr_n3 E hf).at (cr_row S0 f G 3) rfl) dL_hour_119 ?_
        refine cr_icmp_ne X 128 dL_hour_120 rfl ?_ ?_
        · refine cr_sub (lv' := [(0, .ref (E.2.1 f 0)), (1, .ref (E.2.1 f 1)), (2, .ref (E.2.1 f 2)), (3, .ref (E.2.1 11 0)), (4, .ref (E.2.1 11 1)), (5, .ref (E.2.1 11 2)), (6, .ref (E.2.1 f 3))]) [0, 1, 2, 3, 4, 5, 6] rfl ?_
          exact b_L_hour_128 X S0 hf (fun Ga => s_L_hour_94 (S0.1 11) n Ga) ih G
        · refine cr_aload X 6 rfl dL_hour_123 ?_
          refine cr_iconst X (4 : Int32) (by decide) dL_hour_125 ?_
          refine cr_iconst X (-1 : Int32) (by decide) dL_hour_126 ?_
          refine cr_iastGk X 4 (cr_n3 E hf) (fun _ _ => rfl) (by decide) (by decide) dL_hour_127 (fun G127_5 => ?_)
          refine cr_sub (lv' := [(0, .ref (E.2.1 f 0)), (1, .ref (E.2.1 f 1)), (2, .ref (E.2.1 f 2)), (3, .ref (E.2.1 11 0)), (4, .ref (E.2.1 11 1)), (5, .ref (E.2.1 11 2)), (6, .ref (E.2.1 f 3))]) [0, 1, 2, 3, 4, 5, 6] rfl ?_
          exact b_L_hour_128 X S0 hf (fun Ga => s_L_hour_94 (S0.1 11) n Ga) ih G127_5
set_option maxHeartbeats 4000000 in
set_option maxRecDepth 100000 in
theorem b_L_hour_45 {Γ : cr_C} {E : cr_E} (X : cr_X Γ E cL_hour 16 RL wsL_hour rm_L_hour (some .int)) (S0 : cr_S) {f : Nat} (hf : cr_g E f) (k9 : Int32 → Int32 → cr_G → Option (Int32 × cr_G)) (hk9 : ∀ (x7 : Int32) (x8 : Int32) (G : cr_G), cr_P Γ E 16 (cr_F Γ E (cr_vIG S0 f)) 0 0 (cr_us S0 f G) 9 ([(0, .ref (E.2.1 f 0)), (1, .ref (E.2.1 f 1)), (2, .ref (E.2.1 f 2)), (3, .ref (E.2.1 11 0)), (4, .ref (E.2.1 11 1)), (5, .ref (E.2.1 11 2)), (6, .ref (E.2.1 f 3)), (7, .int x7), (8, .int x8)]) [] (k9 x7 x8 G)) (x7 : Int32) (x8 : Int32) (y0 : Int32) (G : cr_G) : cr_P Γ E 16 (cr_F Γ E (cr_vIG S0 f)) 0 0 (cr_us S0 f G) 45 ([(0, .ref (E.2.1 f 0)), (1, .ref (E.2.1 f 1)), (2, .ref (E.2.1 f 2)), (3, .ref (E.2.1 11 0)), (4, .ref (E.2.1 11 1)), (5, .ref (E.2.1 11 2)), (6, .ref (E.2.1 f 3)), (7, .int x7), (8, .int x8)]) ([.int y0]) (s_L_hour_45 (S0.1 11) k9 x7 x8 y0 G) := by
  have hEK := X.2.2.2.2.2.2.1
  unfold s_L_hour_45
  refine cr_istore X ([(9, .int y0), (0, .ref (E.2.1 f 0)), (1, .ref (E.2.1 f 1)), (2, .ref (E.2.1 f 2)), (3, .ref (E.2.1 11 0)), (4, .ref (E.2.1 11 1)), (5, .ref (E.2.1 11 2)), (6, .ref (E.2.1 f 3)), (7, .int x7), (8, .int x8)]) rfl (by decide) dL_hour_45 ?_
  refine cr_aload_n X 2 rfl dL_hour_47 ?_
  refine cr_iconst X (2 : Int32) (by decide) dL_hour_48 ?_
  refine cr_iload X 9 rfl dL_hour_49 ?_
  refine cr_imul X dL_hour_51 ?_
  refine cr_iconst X (1 : Int32) (by decide) dL_hour_52 ?_
  refine cr_iadd X dL_hour_53 ?_
  refine cr_dup2 X rfl rfl dL_hour_54 ?_
  refine cr_iald X ((cr_n1 E hf).at (cr_row S0 f G 1) rfl) dL_hour_55 ?_
  refine cr_iload X 0 rfl dL_hour_56 ?_
  refine cr_isub X dL_hour_58 ?_
  refine cr_iastG X (cr_n1 E hf) (fun _ _ => rfl) dL_hour_59 (fun G59_33 => ?_)
  refine cr_iload X 8 rfl dL_hour_60 ?_
  refine cr_iload X 0 rfl dL_hour_62 ?_
  refine cr_isub X dL_hour_64 ?_
  refine cr_istoreb X (fun v65_34 => [(7, .int v65_34), (9, .int y0), (0, .ref (E.2.1 f 0)), (1, .ref (E.2.1 f 1)), (2, .ref (E.2.1 f 2)), (3, .ref (E.2.1 11 0)), (4, .ref (E.2.1 11 1)), (5, .ref (E.2.1 11 2)), (6, .ref (E.2.1 f 3)), (8, .int x8)]) (fun _ => rfl) (by decide) dL_hour_65 (fun v65_34 => ?_)
  refine cr_iinc X (x8 + 1) (fun v67_35 => [(8, .int v67_35), (7, .int v65_34), (9, .int y0), (0, .ref (E.2.1 f 0)), (1, .ref (E.2.1 f 1)), (2, .ref (E.2.1 f 2)), (3, .ref (E.2.1 11 0)), (4, .ref (E.2.1 11 1)), (5, .ref (E.2.1 11 2)), (6, .ref (E.2.1 f 3))]) 9 rfl rfl (fun _ => rfl) (by decide) dL_hour_67 (fun v67_35 => ?_)
  refine cr_goto X 9 dL_hour_70 rfl ?_
  refine cr_sub (lv' := [(0, .ref (E.2.1 f 0)), (1, .ref (E.2.1 f 1)), (2, .ref (E.2.1 f 2)), (3, .ref (E.2.1 11 0)), (4, .ref (E.2.1 11 1)), (5, .ref (E.2.1 11 2)), (6, .ref (E.2.1 f 3)), (7, .int v65_34), (8, .int v67_35)]) [3, 4, 5, 6, 7, 8, 9, 1, 0] rfl ?_
  exact hk9 v65_34 v67_35 G59_33
set_option maxHeartbeats 4000000 in
set_option maxRecDepth 100000 in
theorem b_L_hour_9 {Γ : cr_C} {E : cr_E} (X : cr_X Γ E cL_hour 16 RL wsL_hour rm_L_hour (some .int)) (S0 : cr_S) {f : Nat} (hf : cr_g E f) : ∀ (n : Nat) (x7 : Int32) (x8 : Int32) (G : cr_G), cr_P Γ E 16 (cr_F Γ E (cr_vIG S0 f)) 0 0 (cr_us S0 f G) 9 ([(0, .ref (E.2.1 f 0)), (1, .ref (E.2.1 f 1)), (2, .ref (E.2.1 f 2)), (3, .ref (E.2.1 11 0)), (4, .ref (E.2.1 11 1)), (5, .ref (E.2.1 11 2)), (6, .ref (E.2.1 f 3)), (7, .int x7), (8, .int x8)]) ([]) (s_L_hour_9 (S0.1 11) n x7 x8 G) := by
  have hEK := X.2.2.2.2.2.2.1
  intro n
  induction n with
  | zero => intro x7 x8 G; exact cr_none
  | succ n ih =>
    intro x7 x8 G
    rw [s_L_hour_9]
    refine cr_iload X 8 rfl dL_hour_9 ?_
    refine cr_aload X 6 rfl dL_hour_11 ?_
    refine cr_bipush X (7 : Int32) (by decide) dL_hour_13 ?_
    refine cr_ialdk X 7 (by decide) (by decide) ((cr_n3 E hf).at (cr_row S0 f G 3) rfl) dL_hour_15 ?_
    refine cr_icmp_ge X 73 dL_hour_16 rfl ?_ ?_
    · refine cr_aload_n X 2 rfl dL_hour_73 ?_
      refine cr_iconst X (0 : Int32) (by decide) dL_hour_74 ?_
      refine cr_ialdk X 0 (by decide) (by decide) ((cr_n2 E hf).at (cr_row S0 f G 2) rfl) dL_hour_75 ?_
      refine cr_if_le X 94 dL_hour_76 rfl ?_ ?_
      · refine cr_sub (lv' := [(0, .ref (E.2.1 f 0)), (1, .ref (E.2.1 f 1)), (2, .ref (E.2.1 f 2)), (3, .ref (E.2.1 11 0)), (4, .ref (E.2.1 11 1)), (5, .ref (E.2.1 11 2)), (6, .ref (E.2.1 f 3))]) [0, 1, 2, 3, 4, 5, 6] rfl ?_
        exact b_L_hour_94 X S0 hf 1200 G
      · refine cr_aload_n X 2 rfl dL_hour_79 ?_
        refine cr_iconst X (1 : Int32) (by decide) dL_hour_80 ?_
        refine cr_ialdk X 1 (by decide) (by decide) ((cr_n2 E hf).at (cr_row S0 f G 2) rfl) dL_hour_81 ?_
        refine cr_aload X 6 rfl dL_hour_82 ?_
        refine cr_iconst X (4 : Int32) (by decide) dL_hour_84 ?_
        refine cr_ialdk X 4 (by decide) (by decide) ((cr_n3 E hf).at (cr_row S0 f G 3) rfl) dL_hour_85 ?_
        refine cr_icmp_eq X 94 dL_hour_86 rfl ?_ ?_
        · refine cr_sub (lv' := [(0, .ref (E.2.1 f 0)), (1, .ref (E.2.1 f 1)), (2, .ref (E.2.1 f 2)), (3, .ref (E.2.1 11 0)), (4, .ref (E.2.1 11 1)), (5, .ref (E.2.1 11 2)), (6, .ref (E.2.1 f 3))]) [0, 1, 2, 3, 4, 5, 6] rfl ?_
          exact b_L_hour_94 X S0 hf 1200 G
        · refine cr_aload X 6 rfl dL_hour_89 ?_
          refine cr_iconst X (4 : Int32) (by decide) dL_hour_91 ?_
          refine cr_iconst X (-1 : Int32) (by decide) dL_hour_92 ?_
          refine cr_iastGk X 4 (cr_n3 E hf) (fun _ _ => rfl) (by decide) (by decide) dL_hour_93 (fun G93_2 => ?_)
          refine cr_sub (lv' := [(0, .ref (E.2.1 f 0)), (1, .ref (E.2.1 f 1)), (2, .ref (E.2.1 f 2)), (3, .ref (E.2.1 11 0)), (4, .ref (E.2.1 11 1)), (5, .ref (E.2.1 11 2)), (6, .ref (E.2.1 f 3))]) [0, 1, 2, 3, 4, 5, 6] rfl ?_
          exact b_L_hour_94 X S0 hf 1200 G93_2
    · refine cr_iload X 7 rfl dL_hour_19 ?_
      refine cr_aload_n X 1 rfl dL_hour_21 ?_
      refine cr_iconst X (2 : Int32) (by decide) dL_hour_22 ?_
      refine cr_iload X 8 rfl dL_hour_23 ?_
      refine cr_imul X dL_hour_25 ?_
      refine cr_iconst X (1 : Int32) (by decide) dL_hour_26 ?_
      refine cr_iadd X dL_hour_27 ?_
      refine cr_iald X ((cr_n1 E hf).at (cr_row S0 f G 1) rfl) dL_hour_28 ?_
      refine cr_icmp_ge X 37 dL_hour_29 rfl ?_ ?_
      · refine cr_aload_n X 1 rfl dL_hour_37 ?_
        refine cr_iconst X (2 : Int32) (by decide) dL_hour_38 ?_
        refine cr_iload X 8 rfl dL_hour_39 ?_
        refine cr_imul X dL_hour_41 ?_
        refine cr_iconst X (1 : Int32) (by decide) dL_hour_42 ?_
        refine cr_iadd X dL_hour_43 ?_
        refine cr_iald X ((cr_n1 E hf).at (cr_row S0 f G 1) rfl) dL_hour_44 ?_
        refine cr_sub (lv' := [(0, .ref (E.2.1 f 0)), (1, .ref (E.2.1 f 1)), (2, .ref (E.2.1 f 2)), (3, .ref (E.2.1 11 0)), (4, .ref (E.2.1 11 1)), (5, .ref (E.2.1 11 2)), (6, .ref (E.2.1 f 3)), (7, .int x7), (8, .int x8)]) [0, 1, 2, 3, 4, 5, 6, 7, 8] rfl ?_
        exact b_L_hour_45 X S0 hf (fun x7a x8a Ga => s_L_hour_9 (S0.1 11) n x7a x8a Ga) ih x7 x8 (((G 1) ((((2 : Int32) * x8) + (1 : Int32))).toNatClampNeg)) G
      · refine cr_iload X 7 rfl dL_hour_32 ?_
        refine cr_goto X 45 dL_hour_34 rfl ?_
        refine cr_sub (lv' := [(0, .ref (E.2.1 f 0)), (1, .ref (E.2.1 f 1)), (2, .ref (E.2.1 f 2)), (3, .ref (E.2.1 11 0)), (4, .ref (E.2.1 11 1)), (5, .ref (E.2.1 11 2)), (6, .ref (E.2.1 f 3)), (7, .int x7), (8, .int x8)]) [0, 1, 2, 3, 4, 5, 6, 7, 8] rfl ?_
        exact b_L_hour_45 X S0 hf (fun x7a x8a Ga => s_L_hour_9 (S0.1 11) n x7a x8a Ga) ih x7 x8 x7 G
set_option maxHeartbeats 4000000 in
set_option maxRecDepth 100000 in
theorem c_L_hour (l : Launch) (E : cr_E) (hEK : cr_EK E) (S0 : cr_S) {f : Nat} (hf : cr_g E f) (G : cr_G) : cr_M l E yL_hour wsL_hour rm_L_hour [.ref (E.2.1 f 0), .ref (E.2.1 f 1), .ref (E.2.1 f 2), .ref (E.2.1 11 0), .ref (E.2.1 11 1), .ref (E.2.1 11 2), .ref (E.2.1 f 3)] (cr_us S0 f G) (cr_vIG S0 f) (s_L_hour (S0.1 11) G) := by
  refine cr_enter (cc := cL_hour) (nL := 16) (rt := (some .int)) hEK (by decide) rfl (Nat.le_of_ble_eq_true rfl) (fun Γ hΓ X => ?_)
  subst hΓ
  have X : cr_X Γ E cL_hour 16 RL wsL_hour rm_L_hour (some .int) := X
  unfold s_L_hour
  show cr_P Γ E 16 _ 0 0 (cr_us S0 f G) 0 ([(0, .ref (E.2.1 f 0)), (1, .ref (E.2.1 f 1)), (2, .ref (E.2.1 f 2)), (3, .ref (E.2.1 11 0)), (4, .ref (E.2.1 11 1)), (5, .ref (E.2.1 11 2)), (6, .ref (E.2.1 f 3))]) [] _
  refine cr_aload X 4 rfl dL_hour_0 ?_
  refine cr_iconst X (5 : Int32) (by decide) dL_hour_2 ?_
  refine cr_ialdk X 5 (by decide) (by decide) ((cr_k1 E).at (cr_rowo S0 G (cr_gne hf) 1) rfl) dL_hour_3 ?_
  refine cr_istoreb X (fun v4_1 => [(7, .int v4_1), (0, .ref (E.2.1 f 0)), (1, .ref (E.2.1 f 1)), (2, .ref (E.2.1 f 2)), (3, .ref (E.2.1 11 0)), (4, .ref (E.2.1 11 1)), (5, .ref (E.2.1 11 2)), (6, .ref (E.2.1 f 3))]) (fun _ => rfl) (by decide) dL_hour_4 (fun v4_1 => ?_)
  refine cr_iconst X (0 : Int32) (by decide) dL_hour_6 ?_
  refine cr_istore X ([(8, .int ((0 : Int32))), (7, .int v4_1), (0, .ref (E.2.1 f 0)), (1, .ref (E.2.1 f 1)), (2, .ref (E.2.1 f 2)), (3, .ref (E.2.1 11 0)), (4, .ref (E.2.1 11 1)), (5, .ref (E.2.1 11 2)), (6, .ref (E.2.1 f 3))]) rfl (by decide) dL_hour_7 ?_
  refine cr_sub (lv' := [(0, .ref (E.2.1 f 0)), (1, .ref (E.2.1 f 1)), (2, .ref (E.2.1 f 2)), (3, .ref (E.2.1 11 0)), (4, .ref (E.2.1 11 1)), (5, .ref (E.2.1 11 2)), (6, .ref (E.2.1 f 3)), (7, .int v4_1), (8, .int ((0 : Int32)))]) [2, 3, 4, 5, 6, 7, 8, 1, 0] rfl ?_
  exact b_L_hour_9 X S0 hf 1200 v4_1 ((0 : Int32)) G
theorem c_L_hour_S (l : Launch) (E : cr_E) (hEK : cr_EK E) (S : cr_S) {f : Nat} (hf : cr_g E f) : cr_M l E yL_hour wsL_hour rm_L_hour [.ref (E.2.1 f 0), .ref (E.2.1 f 1), .ref (E.2.1 f 2), .ref (E.2.1 11 0), .ref (E.2.1 11 1), .ref (E.2.1 11 2), .ref (E.2.1 f 3)] S (cr_vIG S f) (s_L_hour (S.1 11)  (S.1 f)) := by
  have h := c_L_hour l E hEK S hf (S.1 f)
  rw [cr_us_self] at h
  exact h
abbrev rm_L_same0 : Room := { frames := 0, cells := 0, slots := 0, locals := 0 }
set_option maxHeartbeats 4000000 in
set_option maxRecDepth 100000 in
theorem b_L_same0_2 {Γ : cr_C} {E : cr_E} (X : cr_X Γ E cL_same 3 RL wsL_same rm_L_same0 none) (S0 : cr_S) (hfl : cr_fl E) : ∀ (n : Nat) (x2 : Int32) (G : cr_G), cr_P Γ E 3 (cr_F Γ E (cr_vVG S0 10)) 0 0 (cr_us S0 10 G) 2 ([(0, .ref (E.2.1 10 0)), (1, .ref (E.2.1 9 0)), (2, .int x2)]) ([]) (s_L_same0_2 (S0.1 9) n x2 G) := by
  have hEK := X.2.2.2.2.2.2.1
  intro n
  induction n with
  | zero => intro x2 G; exact cr_none
  | succ n ih =>
    intro x2 G
    rw [s_L_same0_2]
    refine cr_iload_n X 2 rfl dL_same_2 ?_
    refine cr_aload_n X 1 rfl dL_same_3 ?_
    refine cr_alen X (v := (42 : Int32)) ((cr_n0 E (cr_g9 E)).at (cr_rowo S0 G cr_gne9 0) rfl) (by decide) dL_same_4 ?_
    refine cr_icmp_ge X 20 dL_same_5 rfl ?_ ?_
    · exact cr_vret X rfl rfl dL_same_20
    · refine cr_aload_n X 0 rfl dL_same_8 ?_
      refine cr_iload_n X 2 rfl dL_same_9 ?_
      refine cr_aload_n X 1 rfl dL_same_10 ?_
      refine cr_iload_n X 2 rfl dL_same_11 ?_
      refine cr_iald X ((cr_n0 E (cr_g9 E)).at (cr_rowo S0 G cr_gne9 0) rfl) dL_same_12 ?_
      refine cr_iastG X (cr_n0 E (cr_g10 hfl)) (fun _ _ => rfl) dL_same_13 (fun G13_1 => ?_)
      refine cr_iinc X (x2 + 1) (fun v14_2 => [(2, .int v14_2), (0, .ref (E.2.1 10 0)), (1, .ref (E.2.1 9 0))]) 2 rfl rfl (fun _ => rfl) (by decide) dL_same_14 (fun v14_2 => ?_)
      refine cr_goto X 2 dL_same_17 rfl ?_
      refine cr_sub (lv' := [(0, .ref (E.2.1 10 0)), (1, .ref (E.2.1 9 0)), (2, .int v14_2)]) [1, 2, 0] rfl ?_
      exact ih v14_2 G13_1
set_option maxHeartbeats 4000000 in
set_option maxRecDepth 100000 in
theorem c_L_same0 (l : Launch) (E : cr_E) (hEK : cr_EK E) (S0 : cr_S) (hfl : cr_fl E) (G : cr_G) : cr_M l E yL_same wsL_same rm_L_same0 [.ref (E.2.1 10 0), .ref (E.2.1 9 0)] (cr_us S0 10 G) (cr_vVG S0 10) (s_L_same0 (S0.1 9) G) := by
  refine cr_enter (cc := cL_same) (nL := 3) (rt := none) hEK (by decide) rfl (Nat.le_of_ble_eq_true rfl) (fun Γ hΓ X => ?_)
  subst hΓ
  have X : cr_X Γ E cL_same 3 RL wsL_same rm_L_same0 none := X
  unfold s_L_same0
  show cr_P Γ E 3 _ 0 0 (cr_us S0 10 G) 0 ([(0, .ref (E.2.1 10 0)), (1, .ref (E.2.1 9 0))]) [] _
  refine cr_iconst X (0 : Int32) (by decide) dL_same_0 ?_
  refine cr_istore_n X ([(2, .int ((0 : Int32))), (0, .ref (E.2.1 10 0)), (1, .ref (E.2.1 9 0))]) rfl (by decide) dL_same_1 ?_
  refine cr_sub (lv' := [(0, .ref (E.2.1 10 0)), (1, .ref (E.2.1 9 0)), (2, .int ((0 : Int32)))]) [1, 2, 0] rfl ?_
  exact b_L_same0_2 X S0 hfl 1200 ((0 : Int32)) G
theorem c_L_same0_S (l : Launch) (E : cr_E) (hEK : cr_EK E) (S : cr_S) (hfl : cr_fl E) : cr_M l E yL_same wsL_same rm_L_same0 [.ref (E.2.1 10 0), .ref (E.2.1 9 0)] S (cr_vVG S 10) (s_L_same0 (S.1 9)  (S.1 10)) := by
  have h := c_L_same0 l E hEK S hfl (S.1 10)
  rw [cr_us_self] at h
  exact h
abbrev rm_L_same1 : Room := { frames := 0, cells := 0, slots := 0, locals := 0 }
set_option maxHeartbeats 4000000 in
set_option maxRecDepth 100000 in
theorem b_L_same1_2 {Γ : cr_C} {E : cr_E} (X : cr_X Γ E cL_same 3 RL wsL_same rm_L_same1 none) (S0 : cr_S) (hfl : cr_fl E) : ∀ (n : Nat) (x2 : Int32) (G : cr_G), cr_P Γ E 3 (cr_F Γ E (cr_vVG S0 10)) 0 0 (cr_us S0 10 G) 2 ([(0, .ref (E.2.1 10 1)), (1, .ref (E.2.1 9 1)), (2, .int x2)]) ([]) (s_L_same1_2 (S0.1 9) n x2 G) := by
  have hEK := X.2.2.2.2.2.2.1
  intro n
  induction n with
  | zero => intro x2 G; exact cr_none
  | succ n ih =>
    intro x2 G
    rw [s_L_same1_2]
    refine cr_iload_n X 2 rfl dL_same_2 ?_
    refine cr_aload_n X 1 rfl dL_same_3 ?_
    refine cr_alen X (v := (22 : Int32)) ((cr_n1 E (cr_g9 E)).at (cr_rowo S0 G cr_gne9 1) rfl) (by decide) dL_same_4 ?_
    refine cr_icmp_ge X 20 dL_same_5 rfl ?_ ?_
    · exact cr_vret X rfl rfl dL_same_20
    · refine cr_aload_n X 0 rfl dL_same_8 ?_
      refine cr_iload_n X 2 rfl dL_same_9 ?_
      refine cr_aload_n X 1 rfl dL_same_10 ?_
      refine cr_iload_n X 2 rfl dL_same_11 ?_
      refine cr_iald X ((cr_n1 E (cr_g9 E)).at (cr_rowo S0 G cr_gne9 1) rfl) dL_same_12 ?_
      refine cr_iastG X (cr_n1 E (cr_g10 hfl)) (fun _ _ => rfl) dL_same_13 (fun G13_1 => ?_)
      refine cr_iinc X (x2 + 1) (fun v14_2 => [(2, .int v14_2), (0, .ref (E.2.1 10 1)), (1, .ref (E.2.1 9 1))]) 2 rfl rfl (fun _ => rfl) (by decide) dL_same_14 (fun v14_2 => ?_)
      refine cr_goto X 2 dL_same_17 rfl ?_
      refine cr_sub (lv' := [(0, .ref (E.2.1 10 1)), (1, .ref (E.2.1 9 1)), (2, .int v14_2)]) [1, 2, 0] rfl ?_
      exact ih v14_2 G13_1
set_option maxHeartbeats 4000000 in
set_option maxRecDepth 100000 in
theorem c_L_same1 (l : Launch) (E : cr_E) (hEK : cr_EK E) (S0 : cr_S) (hfl : cr_fl E) (G : cr_G) : cr_M l E yL_same wsL_same rm_L_same1 [.ref (E.2.1 10 1), .ref (E.2.1 9 1)] (cr_us S0 10 G) (cr_vVG S0 10) (s_L_same1 (S0.1 9) G) := by
  refine cr_enter (cc := cL_same) (nL := 3) (rt := none) hEK (by decide) rfl (Nat.le_of_ble_eq_true rfl) (fun Γ hΓ X => ?_)
  subst hΓ
  have X : cr_X Γ E cL_same 3 RL wsL_same rm_L_same1 none := X
  unfold s_L_same1
  show cr_P Γ E 3 _ 0 0 (cr_us S0 10 G) 0 ([(0, .ref (E.2.1 10 1)), (1, .ref (E.2.1 9 1))]) [] _
  refine cr_iconst X (0 : Int32) (by decide) dL_same_0 ?_
  refine cr_istore_n X ([(2, .int ((0 : Int32))), (0, .ref (E.2.1 10 1)), (1, .ref (E.2.1 9 1))]) rfl (by decide) dL_same_1 ?_
  refine cr_sub (lv' := [(0, .ref (E.2.1 10 1)), (1, .ref (E.2.1 9 1)), (2, .int ((0 : Int32)))]) [1, 2, 0] rfl ?_
  exact b_L_same1_2 X S0 hfl 1200 ((0 : Int32)) G
theorem c_L_same1_S (l : Launch) (E : cr_E) (hEK : cr_EK E) (S : cr_S) (hfl : cr_fl E) : cr_M l E yL_same wsL_same rm_L_same1 [.ref (E.2.1 10 1), .ref (E.2.1 9 1)] S (cr_vVG S 10) (s_L_same1 (S.1 9)  (S.1 10)) := by
  have h := c_L_same1 l E hEK S hfl (S.1 10)
  rw [cr_us_self] at h
  exact h
abbrev rm_L_same2 : Room := { frames := 0, cells := 0, slots := 0, locals := 0 }
set_option maxHeartbeats 4000000 in
set_option maxRecDepth 100000 in
theorem b_L_same2_2 {Γ : cr_C} {E : cr_E} (X : cr_X Γ E cL_same 3 RL wsL_same rm_L_same2 none) (S0 : cr_S) (hfl : cr_fl E) : ∀ (n : Nat) (x2 : Int32) (G : cr_G), cr_P Γ E 3 (cr_F Γ E (cr_vVG S0 10)) 0 0 (cr_us S0 10 G) 2 ([(0, .ref (E.2.1 10 2)), (1, .ref (E.2.1 9 2)), (2, .int x2)]) ([]) (s_L_same2_2 (S0.1 9) n x2 G) := by
  have hEK := X.2.2.2.2.2.2.1
  intro n
  induction n with
  | zero => intro x2 G; exact cr_none
  | succ n ih =>
    intro x2 G
    rw [s_L_same2_2]
    refine cr_iload_n X 2 rfl dL_same_2 ?_
    refine cr_aload_n X 1 rfl dL_same_3 ?_
    refine cr_alen X (v := (9 : Int32)) ((cr_n2 E (cr_g9 E)).at (cr_rowo S0 G cr_gne9 2) rfl) (by decide) dL_same_4 ?_
    refine cr_icmp_ge X 20 dL_same_5 rfl ?_ ?_
    · exact cr_vret X rfl rfl dL_same_20
    · refine cr_aload_n X 0 rfl dL_same_8 ?_
      refine cr_iload_n X 2 rfl dL_same_9 ?_
      refine cr_aload_n X 1 rfl dL_same_10 ?_
      refine cr_iload_n X 2 rfl dL_same_11 ?_
      refine cr_iald X ((cr_n2 E (cr_g9 E)).at (cr_rowo S0 G cr_gne9 2) rfl) dL_same_12 ?_
      refine cr_iastG X (cr_n2 E (cr_g10 hfl)) (fun _ _ => rfl) dL_same_13 (fun G13_1 => ?_)
      refine cr_iinc X (x2 + 1) (fun v14_2 => [(2, .int v14_2), (0, .ref (E.2.1 10 2)), (1, .ref (E.2.1 9 2))]) 2 rfl rfl (fun _ => rfl) (by decide) dL_same_14 (fun v14_2 => ?_)
      refine cr_goto X 2 dL_same_17 rfl ?_
      refine cr_sub (lv' := [(0, .ref (E.2.1 10 2)), (1, .ref (E.2.1 9 2)), (2, .int v14_2)]) [1, 2, 0] rfl ?_
      exact ih v14_2 G13_1
set_option maxHeartbeats 4000000 in
set_option maxRecDepth 100000 in
theorem c_L_same2 (l : Launch) (E : cr_E) (hEK : cr_EK E) (S0 : cr_S) (hfl : cr_fl E) (G : cr_G) : cr_M l E yL_same wsL_same rm_L_same2 [.ref (E.2.1 10 2), .ref (E.2.1 9 2)] (cr_us S0 10 G) (cr_vVG S0 10) (s_L_same2 (S0.1 9) G) := by
  refine cr_enter (cc := cL_same) (nL := 3) (rt := none) hEK (by decide) rfl (Nat.le_of_ble_eq_true rfl) (fun Γ hΓ X => ?_)
  subst hΓ
  have X : cr_X Γ E cL_same 3 RL wsL_same rm_L_same2 none := X
  unfold s_L_same2
  show cr_P Γ E 3 _ 0 0 (cr_us S0 10 G) 0 ([(0, .ref (E.2.1 10 2)), (1, .ref (E.2.1 9 2))]) [] _
  refine cr_iconst X (0 : Int32) (by decide) dL_same_0 ?_
  refine cr_istore_n X ([(2, .int ((0 : Int32))), (0, .ref (E.2.1 10 2)), (1, .ref (E.2.1 9 2))]) rfl (by decide) dL_same_1 ?_
  refine cr_sub (lv' := [(0, .ref (E.2.1 10 2)), (1, .ref (E.2.1 9 2)), (2, .int ((0 : Int32)))]) [1, 2, 0] rfl ?_
  exact b_L_same2_2 X S0 hfl 1200 ((0 : Int32)) G
theorem c_L_same2_S (l : Launch) (E : cr_E) (hEK : cr_EK E) (S : cr_S) (hfl : cr_fl E) : cr_M l E yL_same wsL_same rm_L_same2 [.ref (E.2.1 10 2), .ref (E.2.1 9 2)] S (cr_vVG S 10) (s_L_same2 (S.1 9)  (S.1 10)) := by
  have h := c_L_same2 l E hEK S hfl (S.1 10)
  rw [cr_us_self] at h
  exact h
abbrev rm_L_same3 : Room := { frames := 0, cells := 0, slots := 0, locals := 0 }
set_option maxHeartbeats 4000000 in
set_option maxRecDepth 100000 in
theorem b_L_same3_2 {Γ : cr_C} {E : cr_E} (X : cr_X Γ E cL_same 3 RL wsL_same rm_L_same3 none) (S0 : cr_S) (hfl : cr_fl E) : ∀ (n : Nat) (x2 : Int32) (G : cr_G), cr_P Γ E 3 (cr_F Γ E (cr_vVG S0 10)) 0 0 (cr_us S0 10 G) 2 ([(0, .ref (E.2.1 10 3)), (1, .ref (E.2.1 9 3)), (2, .int x2)]) ([]) (s_L_same3_2 (S0.1 9) n x2 G) := by
  have hEK := X.2.2.2.2.2.2.1
  intro n
  induction n with
  | zero => intro x2 G; exact cr_none
  | succ n ih =>
    intro x2 G
    rw [s_L_same3_2]
    refine cr_iload_n X 2 rfl dL_same_2 ?_
    refine cr_aload_n X 1 rfl dL_same_3 ?_
    refine cr_alen X (v := (14 : Int32)) ((cr_n3 E (cr_g9 E)).at (cr_rowo S0 G cr_gne9 3) rfl) (by decide) dL_same_4 ?_
    refine cr_icmp_ge X 20 dL_same_5 rfl ?_ ?_
    · exact cr_vret X rfl rfl dL_same_20
    · refine cr_aload_n X 0 rfl dL_same_8 ?_
      refine cr_iload_n X 2 rfl dL_same_9 ?_
      refine cr_aload_n X 1 rfl dL_same_10 ?_
      refine cr_iload_n X 2 rfl dL_same_11 ?_
      refine cr_iald X ((cr_n3 E (cr_g9 E)).at (cr_rowo S0 G cr_gne9 3) rfl) dL_same_12 ?_
      refine cr_iastG X (cr_n3 E (cr_g10 hfl)) (fun _ _ => rfl) dL_same_13 (fun G13_1 => ?_)
      refine cr_iinc X (x2 + 1) (fun v14_2 => [(2, .int v14_2), (0, .ref (E.2.1 10 3)), (1, .ref (E.2.1 9 3))]) 2 rfl rfl (fun _ => rfl) (by decide) dL_same_14 (fun v14_2 => ?_)
      refine cr_goto X 2 dL_same_17 rfl ?_
      refine cr_sub (lv' := [(0, .ref (E.2.1 10 3)), (1, .ref (E.2.1 9 3)), (2, .int v14_2)]) [1, 2, 0] rfl ?_
      exact ih v14_2 G13_1
set_option maxHeartbeats 4000000 in
set_option maxRecDepth 100000 in
theorem c_L_same3 (l : Launch) (E : cr_E) (hEK : cr_EK E) (S0 : cr_S) (hfl : cr_fl E) (G : cr_G) : cr_M l E yL_same wsL_same rm_L_same3 [.ref (E.2.1 10 3), .ref (E.2.1 9 3)] (cr_us S0 10 G) (cr_vVG S0 10) (s_L_same3 (S0.1 9) G) := by
  refine cr_enter (cc := cL_same) (nL := 3) (rt := none) hEK (by decide) rfl (Nat.le_of_ble_eq_true rfl) (fun Γ hΓ X => ?_)
  subst hΓ
  have X : cr_X Γ E cL_same 3 RL wsL_same rm_L_same3 none := X
  unfold s_L_same3
  show cr_P Γ E 3 _ 0 0 (cr_us S0 10 G) 0 ([(0, .ref (E.2.1 10 3)), (1, .ref (E.2.1 9 3))]) [] _
  refine cr_iconst X (0 : Int32) (by decide) dL_same_0 ?_
  refine cr_istore_n X ([(2, .int ((0 : Int32))), (0, .ref (E.2.1 10 3)), (1, .ref (E.2.1 9 3))]) rfl (by decide) dL_same_1 ?_
  refine cr_sub (lv' := [(0, .ref (E.2.1 10 3)), (1, .ref (E.2.1 9 3)), (2, .int ((0 : Int32)))]) [1, 2, 0] rfl ?_
  exact b_L_same3_2 X S0 hfl 1200 ((0 : Int32)) G
theorem c_L_same3_S (l : Launch) (E : cr_E) (hEK : cr_EK E) (S : cr_S) (hfl : cr_fl E) : cr_M l E yL_same wsL_same rm_L_same3 [.ref (E.2.1 10 3), .ref (E.2.1 9 3)] S (cr_vVG S 10) (s_L_same3 (S.1 9)  (S.1 10)) := by
  have h := c_L_same3 l E hEK S hfl (S.1 10)
  rw [cr_us_self] at h
  exact h
abbrev rm_L_sum : Room := { frames := 0, cells := 0, slots := 0, locals := 0 }
set_option maxHeartbeats 4000000 in
set_option maxRecDepth 100000 in
theorem b_L_sum_5 {Γ : cr_C} {E : cr_E} (X : cr_X Γ E cL_sum 5 RL wsL_sum rm_L_sum (some .int)) (S0 : cr_S) {f : Nat} (hf : cr_g E f) (G : cr_G) : ∀ (n : Nat) (x0 : Int32) (x3 : Int32) (x4 : Int32), cr_P Γ E 5 (cr_F Γ E (cr_vI (cr_us S0 f G))) 0 0 (cr_us S0 f G) 5 ([(0, .int x0), (1, .ref (E.2.1 f 0)), (2, .ref (E.2.1 f 3)), (3, .int x3), (4, .int x4)]) ([]) (s_L_sum_5 (S0.1 11) G n x0 x3 x4) := by
  have hEK := X.2.2.2.2.2.2.1
  intro n
  induction n with
  | zero => intro x0 x3 x4; exact cr_none
  | succ n ih =>
    intro x0 x3 x4
    rw [s_L_sum_5]
    refine cr_iload X 4 rfl dL_sum_5 ?_
    refine cr_aload_n X 2 rfl dL_sum_7 ?_
    refine cr_bipush X (6 : Int32) (by decide) dL_sum_8 ?_
    refine cr_ialdk X 6 (by decide) (by decide) ((cr_n3 E hf).at (cr_row S0 f G 3) rfl) dL_sum_10 ?_
    refine cr_icmp_ge X 57 dL_sum_11 rfl ?_ ?_
    · refine cr_iload_n X 3 rfl dL_sum_57 ?_
      exact cr_iret X rfl rfl dL_sum_58
    · refine cr_iload_n X 3 rfl dL_sum_14 ?_
      refine cr_iload_n X 0 rfl dL_sum_15 ?_
      refine cr_iconst X (3 : Int32) (by decide) dL_sum_16 ?_
      refine cr_icmp_ne X 40 dL_sum_17 rfl ?_ ?_
      · refine cr_aload_n X 1 rfl dL_sum_40 ?_
        refine cr_bipush X (7 : Int32) (by decide) dL_sum_41 ?_
        refine cr_iload X 4 rfl dL_sum_43 ?_
        refine cr_imul X dL_sum_45 ?_
        refine cr_iload_n X 0 rfl dL_sum_46 ?_
        refine cr_iadd X dL_sum_47 ?_
        refine cr_iald X ((cr_n0 E hf).at (cr_row S0 f G 0) rfl) dL_sum_48 ?_
        refine cr_iadd X dL_sum_49 ?_
        refine cr_istore_nb X (fun v50_1 => [(3, .int v50_1), (0, .int x0), (1, .ref (E.2.1 f 0)), (2, .ref (E.2.1 f 3)), (4, .int x4)]) (fun _ => rfl) (by decide) dL_sum_50 (fun v50_1 => ?_)
        refine cr_iinc X (x4 + 1) (fun v51_2 => [(4, .int v51_2), (3, .int v50_1), (0, .int x0), (1, .ref (E.2.1 f 0)), (2, .ref (E.2.1 f 3))]) 4 rfl rfl (fun _ => rfl) (by decide) dL_sum_51 (fun v51_2 => ?_)
        refine cr_goto X 5 dL_sum_54 rfl ?_
        refine cr_sub (lv' := [(0, .int x0), (1, .ref (E.2.1 f 0)), (2, .ref (E.2.1 f 3)), (3, .int v50_1), (4, .int v51_2)]) [2, 3, 4, 1, 0] rfl ?_
        exact ih x0 v50_1 v51_2
      · refine cr_aload_n X 1 rfl dL_sum_20 ?_
        refine cr_bipush X (7 : Int32) (by decide) dL_sum_21 ?_
        refine cr_iload X 4 rfl dL_sum_23 ?_
        refine cr_imul X dL_sum_25 ?_
        refine cr_iconst X (3 : Int32) (by decide) dL_sum_26 ?_
        refine cr_iadd X dL_sum_27 ?_
        refine cr_iald X ((cr_n0 E hf).at (cr_row S0 f G 0) rfl) dL_sum_28 ?_
        refine cr_if_le X 36 dL_sum_29 rfl ?_ ?_
        · refine cr_iconst X (0 : Int32) (by decide) dL_sum_36 ?_
          refine cr_goto X 49 dL_sum_37 rfl ?_
          refine cr_iadd X dL_sum_49 ?_
          refine cr_istore_nb X (fun v50_3 => [(3, .int v50_3), (0, .int x0), (1, .ref (E.2.1 f 0)), (2, .ref (E.2.1 f 3)), (4, .int x4)]) (fun _ => rfl) (by decide) dL_sum_50 (fun v50_3 => ?_)
          refine cr_iinc X (x4 + 1) (fun v51_4 => [(4, .int v51_4), (3, .int v50_3), (0, .int x0), (1, .ref (E.2.1 f 0)), (2, .ref (E.2.1 f 3))]) 4 rfl rfl (fun _ => rfl) (by decide) dL_sum_51 (fun v51_4 => ?_)
          refine cr_goto X 5 dL_sum_54 rfl ?_
          refine cr_sub (lv' := [(0, .int x0), (1, .ref (E.2.1 f 0)), (2, .ref (E.2.1 f 3)), (3, .int v50_3), (4, .int v51_4)]) [2, 3, 4, 1, 0] rfl ?_
          exact ih x0 v50_3 v51_4
        · refine cr_iconst X (1 : Int32) (by decide) dL_sum_32 ?_
          refine cr_goto X 49 dL_sum_33 rfl ?_
          refine cr_iadd X dL_sum_49 ?_
          refine cr_istore_nb X (fun v50_5 => [(3, .int v50_5), (0, .int x0), (1, .ref (E.2.1 f 0)), (2, .ref (E.2.1 f 3)), (4, .int x4)]) (fun _ => rfl) (by decide) dL_sum_50 (fun v50_5 => ?_)
          refine cr_iinc X (x4 + 1) (fun v51_6 => [(4, .int v51_6), (3, .int v50_5), (0, .int x0), (1, .ref (E.2.1 f 0)), (2, .ref (E.2.1 f 3))]) 4 rfl rfl (fun _ => rfl) (by decide) dL_sum_51 (fun v51_6 => ?_)
          refine cr_goto X 5 dL_sum_54 rfl ?_
          refine cr_sub (lv' := [(0, .int x0), (1, .ref (E.2.1 f 0)), (2, .ref (E.2.1 f 3)), (3, .int v50_5), (4, .int v51_6)]) [2, 3, 4, 1, 0] rfl ?_
          exact ih x0 v50_5 v51_6
set_option maxHeartbeats 4000000 in
set_option maxRecDepth 100000 in
theorem c_L_sum (l : Launch) (E : cr_E) (hEK : cr_EK E) (S0 : cr_S) {f : Nat} (hf : cr_g E f) (G : cr_G) (p0 : Int32) : cr_M l E yL_sum wsL_sum rm_L_sum [.int p0, .ref (E.2.1 f 0), .ref (E.2.1 f 3)] (cr_us S0 f G) (cr_vI (cr_us S0 f G)) (s_L_sum (S0.1 11) G p0) := by
  refine cr_enter (cc := cL_sum) (nL := 5) (rt := (some .int)) hEK (by decide) rfl (Nat.le_of_ble_eq_true rfl) (fun Γ hΓ X => ?_)
  subst hΓ
  have X : cr_X Γ E cL_sum 5 RL wsL_sum rm_L_sum (some .int) := X
  unfold s_L_sum
  show cr_P Γ E 5 _ 0 0 (cr_us S0 f G) 0 ([(0, .int p0), (1, .ref (E.2.1 f 0)), (2, .ref (E.2.1 f 3))]) [] _
  refine cr_iconst X (0 : Int32) (by decide) dL_sum_0 ?_
  refine cr_istore_n X ([(3, .int ((0 : Int32))), (0, .int p0), (1, .ref (E.2.1 f 0)), (2, .ref (E.2.1 f 3))]) rfl (by decide) dL_sum_1 ?_
  refine cr_iconst X (0 : Int32) (by decide) dL_sum_2 ?_
  refine cr_istore X ([(4, .int ((0 : Int32))), (3, .int ((0 : Int32))), (0, .int p0), (1, .ref (E.2.1 f 0)), (2, .ref (E.2.1 f 3))]) rfl (by decide) dL_sum_3 ?_
  refine cr_sub (lv' := [(0, .int p0), (1, .ref (E.2.1 f 0)), (2, .ref (E.2.1 f 3)), (3, .int ((0 : Int32))), (4, .int ((0 : Int32)))]) [2, 3, 4, 1, 0] rfl ?_
  exact b_L_sum_5 X S0 hf G 1200 p0 ((0 : Int32)) ((0 : Int32))
theorem c_L_sum_S (l : Launch) (E : cr_E) (hEK : cr_EK E) (S : cr_S) {f : Nat} (hf : cr_g E f) (p0 : Int32) : cr_M l E yL_sum wsL_sum rm_L_sum [.int p0, .ref (E.2.1 f 0), .ref (E.2.1 f 3)] S (cr_vI S) (s_L_sum (S.1 11) (S.1 f) p0) := by
  have h := c_L_sum l E hEK S hf (S.1 f) p0
  rw [cr_us_self] at h
  exact h
abbrev rm_L_window : Room := { frames := 1, cells := 0, slots := 0, locals := 21 }
set_option maxHeartbeats 4000000 in
set_option maxRecDepth 100000 in
theorem b_L_window_13 {Γ : cr_C} {E : cr_E} (X : cr_X Γ E cL_window 8 RL wsL_window rm_L_window (some .int)) (S0 : cr_S) {f : Nat} (hf : cr_g E f) (G : cr_G) (k3 : Int32 → Int32 → Int32 → Option Int32) (hk3 : ∀ (x0 : Int32) (x1 : Int32) (x6 : Int32), cr_P Γ E 8 (cr_F Γ E (cr_vI (cr_us S0 f G))) 0 0 (cr_us S0 f G) 3 ([(0, .int x0), (1, .int x1), (2, .ref (E.2.1 f 0)), (3, .ref (E.2.1 11 0)), (4, .ref (E.2.1 11 1)), (5, .ref (E.2.1 f 3)), (6, .int x6)]) [] (k3 x0 x1 x6)) : ∀ (n : Nat) (x0 : Int32) (x1 : Int32) (x6 : Int32) (x7 : Int32), cr_P Γ E 8 (cr_F Γ E (cr_vI (cr_us S0 f G))) 0 0 (cr_us S0 f G) 13 ([(0, .int x0), (1, .int x1), (2, .ref (E.2.1 f 0)), (3, .ref (E.2.1 11 0)), (4, .ref (E.2.1 11 1)), (5, .ref (E.2.1 f 3)), (6, .int x6), (7, .int x7)]) ([]) (s_L_window_13 (S0.1 11) G k3 n x0 x1 x6 x7) := by
  have hEK := X.2.2.2.2.2.2.1
  intro n
  induction n with
  | zero => intro x0 x1 x6 x7; exact cr_none
  | succ n ih =>
    intro x0 x1 x6 x7
    rw [s_L_window_13]
    refine cr_iload X 7 rfl dL_window_13 ?_
    refine cr_iload_n X 1 rfl dL_window_15 ?_
    refine cr_icmp_ge X 58 dL_window_16 rfl ?_ ?_
    · refine cr_iload X 7 rfl dL_window_58 ?_
      refine cr_iload_n X 1 rfl dL_window_60 ?_
      refine cr_icmp_ne X 67 dL_window_61 rfl ?_ ?_
      · refine cr_iinc X (x6 + 1) (fun v67_1 => [(6, .int v67_1), (0, .int x0), (1, .int x1), (2, .ref (E.2.1 f 0)), (3, .ref (E.2.1 11 0)), (4, .ref (E.2.1 11 1)), (5, .ref (E.2.1 f 3)), (7, .int x7)]) 6 rfl rfl (fun _ => rfl) (by decide) dL_window_67 (fun v67_1 => ?_)
        refine cr_goto X 3 dL_window_70 rfl ?_
        refine cr_sub (lv' := [(0, .int x0), (1, .int x1), (2, .ref (E.2.1 f 0)), (3, .ref (E.2.1 11 0)), (4, .ref (E.2.1 11 1)), (5, .ref (E.2.1 f 3)), (6, .int v67_1)]) [1, 2, 3, 4, 5, 6, 0] rfl ?_
        exact hk3 x0 x1 v67_1
      · refine cr_iload X 6 rfl dL_window_64 ?_
        exact cr_iret X rfl rfl dL_window_66
    · refine cr_aload X 5 rfl dL_window_19 ?_
      refine cr_iconst X (5 : Int32) (by decide) dL_window_21 ?_
      refine cr_ialdk X 5 (by decide) (by decide) ((cr_n3 E hf).at (cr_row S0 f G 3) rfl) dL_window_22 ?_
      refine cr_iload X 6 rfl dL_window_23 ?_
      refine cr_iadd X dL_window_25 ?_
      refine cr_iload X 7 rfl dL_window_26 ?_
      refine cr_iadd X dL_window_28 ?_
      refine cr_aload_n X 3 rfl dL_window_29 ?_
      refine cr_callS X (As := [.int (((((G 3) 5) + x6) + x7)), .ref (E.2.1 11 0)]) (rest := []) (c_L_wind Γ.2.1 E hEK S0 hf G (((((G 3) 5) + x6) + x7))) 2 gL_window_L_wind rfl rfl rfl (by decide +kernel) ⟨Nat.le_of_ble_eq_true rfl, Nat.le_of_ble_eq_true rfl⟩ (by decide) rfl rfl (Nat.le_of_ble_eq_true rfl) dL_window_30 (fun r30_2 => ?_)
      show cr_P Γ E 8 _ 0 0 (cr_us S0 f G) 33 ([(0, .int x0), (1, .int x1), (2, .ref (E.2.1 f 0)), (3, .ref (E.2.1 11 0)), (4, .ref (E.2.1 11 1)), (5, .ref (E.2.1 f 3)), (6, .int x6), (7, .int x7)]) ([.int r30_2]) _
      refine cr_aload X 4 rfl dL_window_33 ?_
      refine cr_iconst X (0 : Int32) (by decide) dL_window_35 ?_
      refine cr_ialdk X 0 (by decide) (by decide) ((cr_k1 E).at (cr_rowo S0 G (cr_gne hf) 1) rfl) dL_window_36 ?_
      refine cr_aload_n X 2 rfl dL_window_37 ?_
      refine cr_bipush X (7 : Int32) (by decide) dL_window_38 ?_
      refine cr_iload_n X 0 rfl dL_window_40 ?_
      refine cr_imul X dL_window_41 ?_
      refine cr_iconst X (1 : Int32) (by decide) dL_window_42 ?_
      refine cr_iadd X dL_window_43 ?_
      refine cr_iald X ((cr_n0 E hf).at (cr_row S0 f G 0) rfl) dL_window_44 ?_
      refine cr_bipush X (25 : Int32) (by decide) dL_window_45 ?_
      refine cr_idivk X (by decide) dL_window_47 ?_
      refine cr_isub X dL_window_48 ?_
      refine cr_icmp_gt X 58 dL_window_49 rfl ?_ ?_
      · refine cr_iload X 7 rfl dL_window_58 ?_
        refine cr_iload_n X 1 rfl dL_window_60 ?_
        refine cr_icmp_ne X 67 dL_window_61 rfl ?_ ?_
        · refine cr_iinc X (x6 + 1) (fun v67_3 => [(6, .int v67_3), (0, .int x0), (1, .int x1), (2, .ref (E.2.1 f 0)), (3, .ref (E.2.1 11 0)), (4, .ref (E.2.1 11 1)), (5, .ref (E.2.1 f 3)), (7, .int x7)]) 6 rfl rfl (fun _ => rfl) (by decide) dL_window_67 (fun v67_3 => ?_)
          refine cr_goto X 3 dL_window_70 rfl ?_
          refine cr_sub (lv' := [(0, .int x0), (1, .int x1), (2, .ref (E.2.1 f 0)), (3, .ref (E.2.1 11 0)), (4, .ref (E.2.1 11 1)), (5, .ref (E.2.1 f 3)), (6, .int v67_3)]) [1, 2, 3, 4, 5, 6, 0] rfl ?_
          exact hk3 x0 x1 v67_3
        · refine cr_iload X 6 rfl dL_window_64 ?_
          exact cr_iret X rfl rfl dL_window_66
      · refine cr_iinc X (x7 + 1) (fun v52_4 => [(7, .int v52_4), (0, .int x0), (1, .int x1), (2, .ref (E.2.1 f 0)), (3, .ref (E.2.1 11 0)), (4, .ref (E.2.1 11 1)), (5, .ref (E.2.1 f 3)), (6, .int x6)]) 7 rfl rfl (fun _ => rfl) (by decide) dL_window_52 (fun v52_4 => ?_)
        refine cr_goto X 13 dL_window_55 rfl ?_
        refine cr_sub (lv' := [(0, .int x0), (1, .int x1), (2, .ref (E.2.1 f 0)), (3, .ref (E.2.1 11 0)), (4, .ref (E.2.1 11 1)), (5, .ref (E.2.1 f 3)), (6, .int x6), (7, .int v52_4)]) [1, 2, 3, 4, 5, 6, 7, 0] rfl ?_
        exact ih x0 x1 x6 v52_4
set_option maxHeartbeats 4000000 in
set_option maxRecDepth 100000 in
theorem b_L_window_3 {Γ : cr_C} {E : cr_E} (X : cr_X Γ E cL_window 8 RL wsL_window rm_L_window (some .int)) (S0 : cr_S) {f : Nat} (hf : cr_g E f) (G : cr_G) : ∀ (n : Nat) (x0 : Int32) (x1 : Int32) (x6 : Int32), cr_P Γ E 8 (cr_F Γ E (cr_vI (cr_us S0 f G))) 0 0 (cr_us S0 f G) 3 ([(0, .int x0), (1, .int x1), (2, .ref (E.2.1 f 0)), (3, .ref (E.2.1 11 0)), (4, .ref (E.2.1 11 1)), (5, .ref (E.2.1 f 3)), (6, .int x6)]) ([]) (s_L_window_3 (S0.1 11) G n x0 x1 x6) := by
  have hEK := X.2.2.2.2.2.2.1
  intro n
  induction n with
  | zero => intro x0 x1 x6; exact cr_none
  | succ n ih =>
    intro x0 x1 x6
    rw [s_L_window_3]
    refine cr_iload X 6 rfl dL_window_3 ?_
    refine cr_bipush X (97 : Int32) (by decide) dL_window_5 ?_
    refine cr_icmp_ge X 73 dL_window_7 rfl ?_ ?_
    · refine cr_iconst X (-1 : Int32) (by decide) dL_window_73 ?_
      exact cr_iret X rfl rfl dL_window_74
    · refine cr_iconst X (0 : Int32) (by decide) dL_window_10 ?_
      refine cr_istore X ([(7, .int ((0 : Int32))), (0, .int x0), (1, .int x1), (2, .ref (E.2.1 f 0)), (3, .ref (E.2.1 11 0)), (4, .ref (E.2.1 11 1)), (5, .ref (E.2.1 f 3)), (6, .int x6)]) rfl (by decide) dL_window_11 ?_
      refine cr_sub (lv' := [(0, .int x0), (1, .int x1), (2, .ref (E.2.1 f 0)), (3, .ref (E.2.1 11 0)), (4, .ref (E.2.1 11 1)), (5, .ref (E.2.1 f 3)), (6, .int x6), (7, .int ((0 : Int32)))]) [1, 2, 3, 4, 5, 6, 7, 0] rfl ?_
      exact b_L_window_13 X S0 hf G (fun x0a x1a x6a => s_L_window_3 (S0.1 11) G n x0a x1a x6a) ih 1200 x0 x1 x6 ((0 : Int32))
set_option maxHeartbeats 4000000 in
set_option maxRecDepth 100000 in
theorem c_L_window (l : Launch) (E : cr_E) (hEK : cr_EK E) (S0 : cr_S) {f : Nat} (hf : cr_g E f) (G : cr_G) (p0 : Int32) (p1 : Int32) : cr_M l E yL_window wsL_window rm_L_window [.int p0, .int p1, .ref (E.2.1 f 0), .ref (E.2.1 11 0), .ref (E.2.1 11 1), .ref (E.2.1 f 3)] (cr_us S0 f G) (cr_vI (cr_us S0 f G)) (s_L_window (S0.1 11) G p0 p1) := by
  refine cr_enter (cc := cL_window) (nL := 8) (rt := (some .int)) hEK (by decide) rfl (Nat.le_of_ble_eq_true rfl) (fun Γ hΓ X => ?_)
  subst hΓ
  have X : cr_X Γ E cL_window 8 RL wsL_window rm_L_window (some .int) := X
  unfold s_L_window
  show cr_P Γ E 8 _ 0 0 (cr_us S0 f G) 0 ([(0, .int p0), (1, .int p1), (2, .ref (E.2.1 f 0)), (3, .ref (E.2.1 11 0)), (4, .ref (E.2.1 11 1)), (5, .ref (E.2.1 f 3))]) [] _
  refine cr_iconst X (0 : Int32) (by decide) dL_window_0 ?_
  refine cr_istore X ([(6, .int ((0 : Int32))), (0, .int p0), (1, .int p1), (2, .ref (E.2.1 f 0)), (3, .ref (E.2.1 11 0)), (4, .ref (E.2.1 11 1)), (5, .ref (E.2.1 f 3))]) rfl (by decide) dL_window_1 ?_
  refine cr_sub (lv' := [(0, .int p0), (1, .int p1), (2, .ref (E.2.1 f 0)), (3, .ref (E.2.1 11 0)), (4, .ref (E.2.1 11 1)), (5, .ref (E.2.1 f 3)), (6, .int ((0 : Int32)))]) [1, 2, 3, 4, 5, 6, 0] rfl ?_
  exact b_L_window_3 X S0 hf G 1200 p0 p1 ((0 : Int32))
theorem c_L_window_S (l : Launch) (E : cr_E) (hEK : cr_EK E) (S : cr_S) {f : Nat} (hf : cr_g E f) (p0 : Int32) (p1 : Int32) : cr_M l E yL_window wsL_window rm_L_window [.int p0, .int p1, .ref (E.2.1 f 0), .ref (E.2.1 11 0), .ref (E.2.1 11 1), .ref (E.2.1 f 3)] S (cr_vI S) (s_L_window (S.1 11) (S.1 f) p0 p1) := by
  have h := c_L_window l E hEK S hf (S.1 f) p0 p1
  rw [cr_us_self] at h
  exact h
theorem k_L_cell_416 : (Cond.constant RL 7 (1116352408)) ∈ wsL_cell := List.mem_of_getElem? (i := 416) (by rfl)
abbrev rm_L_cell : Room := { frames := 0, cells := 0, slots := 0, locals := 0 }
set_option maxHeartbeats 4000000 in
set_option maxRecDepth 100000 in
theorem c_L_cell (l : Launch) (E : cr_E) (hEK : cr_EK E) (S : cr_S) {b L : Nat} {xs : Nat → Int32} (p1 : Int32) : cr_Mb l E yL_cell wsL_cell rm_L_cell b L xs [.ref b, .int p1] S (cr_vI S) (s_L_cell xs L p1) := by
  refine cr_enterb (cc := cL_cell) (nL := 2) (rt := (some .int)) hEK (by decide) rfl (Nat.le_of_ble_eq_true rfl) (fun Γ hΓ X SC => ?_)
  subst hΓ
  have X : cr_X Γ E cL_cell 2 RL wsL_cell rm_L_cell (some .int) := X
  unfold s_L_cell
  show cr_P Γ E 2 _ 0 0 S 0 ([(0, .ref b), (1, .int p1)]) [] _
  refine cr_iload_n X 1 rfl dL_cell_0 ?_
  refine cr_aload_n X 0 rfl dL_cell_1 ?_
  refine cr_slen X SC dL_cell_2 ?_
  refine cr_icmp_ge X 12 dL_cell_3 rfl ?_ ?_
  · refine cr_ldc X k_L_cell_416 dL_cell_12 ?_
    refine cr_iload_n X 1 rfl dL_cell_14 ?_
    refine cr_iconst X (1 : Int32) (by decide) dL_cell_15 ?_
    refine cr_iadd X dL_cell_16 ?_
    refine cr_imul X dL_cell_17 ?_
    exact cr_iret X rfl rfl dL_cell_18
  · refine cr_aload_n X 0 rfl dL_cell_6 ?_
    refine cr_iload_n X 1 rfl dL_cell_7 ?_
    refine cr_sald X SC dL_cell_8 ?_
    refine cr_goto X 18 dL_cell_9 rfl ?_
    exact cr_iret X rfl rfl dL_cell_18
