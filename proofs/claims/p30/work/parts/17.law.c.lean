abbrev rm_L_number : Room := { frames := 3, cells := 0, slots := 0, locals := 62 }
set_option maxHeartbeats 4000000 in
set_option maxRecDepth 100000 in
theorem b_L_number_20 {Γ : cr_C} {E : cr_E} (X : cr_X Γ E cL_number 2 RL wsL_number rm_L_number (some .boolean)) (x1 : Int32) (S : cr_S) : cr_P Γ E 2 (cr_F Γ E cr_vBS) 0 0 S 20 ([(0, .ref (E.2.1 8 0)), (1, .int x1)]) ([]) (s_L_number_20 x1 S) := by
  have hEK := X.2.2.2.2.2.2.1
  unfold s_L_number_20
  refine cr_aload_n X 0 rfl dL_number_20 ?_
  refine cr_bipush X (48 : Int32) (by decide) dL_number_21 ?_
  refine cr_iload_n X 1 rfl dL_number_23 ?_
  refine cr_bipush X (10 : Int32) (by decide) dL_number_24 ?_
  refine cr_iremk X (by decide) dL_number_26 ?_
  refine cr_iadd X dL_number_27 ?_
  refine cr_callV X (As := [.int (((48 : Int32) + (x1 - x1 / (10 : Int32) * (10 : Int32))))]) (rest := []) (c_X8_append Γ.2.1 E hEK S (((48 : Int32) + (x1 - x1 / (10 : Int32) * (10 : Int32))))) ((cr_b0 E).at rfl rfl) rfl 1 gL_number_X8_append rfl rfl rfl (by decide +kernel) ⟨Nat.le_of_ble_eq_true rfl, Nat.le_of_ble_eq_true rfl⟩ (by decide) rfl rfl (Nat.le_of_ble_eq_true rfl) dL_number_28 (fun r28_2 => ?_)
  show cr_P Γ E 2 _ 0 0 r28_2.2 31 ([(0, .ref (E.2.1 8 0)), (1, .int x1)]) ([.int r28_2.1]) _
  refine cr_if_le X 38 dL_number_31 rfl ?_ ?_
  · refine cr_iconst X (0 : Int32) (by decide) dL_number_38 ?_
    exact cr_zret X false rfl rfl rfl dL_number_39
  · refine cr_iconst X (1 : Int32) (by decide) dL_number_34 ?_
    refine cr_goto X 39 dL_number_35 rfl ?_
    exact cr_zret X true rfl rfl rfl dL_number_39
set_option maxHeartbeats 4000000 in
set_option maxRecDepth 100000 in
theorem c_L_number (l : Launch) (E : cr_E) (hEK : cr_EK E) (S : cr_S) (p1 : Int32) : cr_M l E yL_number wsL_number rm_L_number [.ref (E.2.1 8 0), .int p1] S cr_vBS (s_L_number p1 S) := by
  refine cr_enter (cc := cL_number) (nL := 2) (rt := (some .boolean)) hEK (by decide) rfl (Nat.le_of_ble_eq_true rfl) (fun Γ hΓ X => ?_)
  subst hΓ
  have X : cr_X Γ E cL_number 2 RL wsL_number rm_L_number (some .boolean) := X
  unfold s_L_number
  show cr_P Γ E 2 _ 0 0 S 0 ([(0, .ref (E.2.1 8 0)), (1, .int p1)]) [] _
  refine cr_iload_n X 1 rfl dL_number_0 ?_
  refine cr_bipush X (10 : Int32) (by decide) dL_number_1 ?_
  refine cr_icmp_lt X 20 dL_number_3 rfl ?_ ?_
  · refine cr_sub (lv' := [(0, .ref (E.2.1 8 0)), (1, .int p1)]) [0, 1] rfl ?_
    exact b_L_number_20 X p1 S
  · refine cr_aload_n X 0 rfl dL_number_6 ?_
    refine cr_bipush X (48 : Int32) (by decide) dL_number_7 ?_
    refine cr_iload_n X 1 rfl dL_number_9 ?_
    refine cr_bipush X (10 : Int32) (by decide) dL_number_10 ?_
    refine cr_idivk X (by decide) dL_number_12 ?_
    refine cr_iadd X dL_number_13 ?_
    refine cr_callV X (As := [.int (((48 : Int32) + (p1 / (10 : Int32))))]) (rest := []) (c_X8_append Γ.2.1 E hEK S (((48 : Int32) + (p1 / (10 : Int32))))) ((cr_b0 E).at rfl rfl) rfl 1 gL_number_X8_append rfl rfl rfl (by decide +kernel) ⟨Nat.le_of_ble_eq_true rfl, Nat.le_of_ble_eq_true rfl⟩ (by decide) rfl rfl (Nat.le_of_ble_eq_true rfl) dL_number_14 (fun r14_1 => ?_)
    show cr_P Γ E 2 _ 0 0 r14_1.2 17 ([(0, .ref (E.2.1 8 0)), (1, .int p1)]) ([.int r14_1.1]) _
    refine cr_if_le X 38 dL_number_17 rfl ?_ ?_
    · refine cr_iconst X (0 : Int32) (by decide) dL_number_38 ?_
      exact cr_zret X false rfl rfl rfl dL_number_39
    · refine cr_sub (lv' := [(0, .ref (E.2.1 8 0)), (1, .int p1)]) [0, 1] rfl ?_
      exact b_L_number_20 X p1 r14_1.2
abbrev rm_L_winds : Room := { frames := 5, cells := 0, slots := 0, locals := 123 }
set_option maxHeartbeats 4000000 in
set_option maxRecDepth 100000 in
theorem b_L_winds_127 {Γ : cr_C} {E : cr_E} (X : cr_X Γ E cL_winds 9 RL wsL_winds rm_L_winds (some .boolean)) (k16 : Int32 → Int32 → Int32 → Int32 → cr_S → Option (Bool × cr_S)) (hk16 : ∀ (x1 : Int32) (x2 : Int32) (x4 : Int32) (x5 : Int32) (S : cr_S), cr_P Γ E 9 (cr_F Γ E cr_vBS) 0 0 S 16 ([(0, .ref (E.2.1 8 0)), (1, .int x1), (2, .int x2), (3, .ref (E.2.1 11 0)), (4, .int x4), (5, .int x5)]) [] (k16 x1 x2 x4 x5 S)) : ∀ (n : Nat) (x1 : Int32) (x2 : Int32) (x4 : Int32) (x5 : Int32) (x6 : Int32) (x7 : Int32) (x8 : Int32) (S : cr_S), cr_P Γ E 9 (cr_F Γ E cr_vBS) 0 0 S 127 ([(0, .ref (E.2.1 8 0)), (1, .int x1), (2, .int x2), (3, .ref (E.2.1 11 0)), (4, .int x4), (5, .int x5), (6, .int x6), (7, .int x7), (8, .int x8)]) ([]) (s_L_winds_127 k16 n x1 x2 x4 x5 x6 x7 x8 S) := by
  have hEK := X.2.2.2.2.2.2.1
  intro n
  induction n with
  | zero => intro x1 x2 x4 x5 x6 x7 x8 S; exact cr_none
  | succ n ih =>
    intro x1 x2 x4 x5 x6 x7 x8 S
    rw [s_L_winds_127]
    refine cr_iload X 8 rfl dL_winds_127 ?_
    refine cr_iload X 7 rfl dL_winds_129 ?_
    refine cr_icmp_ge X 154 dL_winds_131 rfl ?_ ?_
    · refine cr_iinc X (x5 + 1) (fun v154_13 => [(5, .int v154_13), (0, .ref (E.2.1 8 0)), (1, .int x1), (2, .int x2), (3, .ref (E.2.1 11 0)), (4, .int x4), (6, .int x6), (7, .int x7), (8, .int x8)]) 5 rfl rfl (fun _ => rfl) (by decide) dL_winds_154 (fun v154_13 => ?_)
      refine cr_goto X 16 dL_winds_157 rfl ?_
      refine cr_sub (lv' := [(0, .ref (E.2.1 8 0)), (1, .int x1), (2, .int x2), (3, .ref (E.2.1 11 0)), (4, .int x4), (5, .int v154_13)]) [1, 2, 3, 4, 5, 0] rfl ?_
      exact hk16 x1 x2 x4 v154_13 S
    · refine cr_aload_n X 3 rfl dL_winds_134 ?_
      refine cr_iconst X (0 : Int32) (by decide) dL_winds_135 ?_
      refine cr_dup2 X rfl rfl dL_winds_136 ?_
      refine cr_ialdk X 0 (by decide) (by decide) ((cr_k0 E).at rfl rfl) dL_winds_137 ?_
      refine cr_iconst X (1 : Int32) (by decide) dL_winds_138 ?_
      refine cr_iadd X dL_winds_139 ?_
      refine cr_iastSk X 0 (cr_k0 E) (fun _ _ => rfl) (by decide) (by decide) dL_winds_140 (fun S140_14 => ?_)
      refine cr_aload_n X 3 rfl dL_winds_141 ?_
      refine cr_aload_n X 3 rfl dL_winds_142 ?_
      refine cr_iconst X (0 : Int32) (by decide) dL_winds_143 ?_
      refine cr_ialdk X 0 (by decide) (by decide) ((cr_k0 E).at rfl rfl) dL_winds_144 ?_
      refine cr_iload X 6 rfl dL_winds_145 ?_
      refine cr_iastS X (cr_k0 E) (fun _ _ => rfl) dL_winds_147 (fun S147_15 => ?_)
      refine cr_iinc X (x8 + 1) (fun v148_16 => [(8, .int v148_16), (0, .ref (E.2.1 8 0)), (1, .int x1), (2, .int x2), (3, .ref (E.2.1 11 0)), (4, .int x4), (5, .int x5), (6, .int x6), (7, .int x7)]) 8 rfl rfl (fun _ => rfl) (by decide) dL_winds_148 (fun v148_16 => ?_)
      refine cr_goto X 127 dL_winds_151 rfl ?_
      refine cr_sub (lv' := [(0, .ref (E.2.1 8 0)), (1, .int x1), (2, .int x2), (3, .ref (E.2.1 11 0)), (4, .int x4), (5, .int x5), (6, .int x6), (7, .int x7), (8, .int v148_16)]) [1, 2, 3, 4, 5, 6, 7, 8, 0] rfl ?_
      exact ih x1 x2 x4 x5 x6 x7 v148_16 S147_15
set_option maxHeartbeats 4000000 in
set_option maxRecDepth 100000 in
theorem b_L_winds_88 {Γ : cr_C} {E : cr_E} (X : cr_X Γ E cL_winds 9 RL wsL_winds rm_L_winds (some .boolean)) (k16 : Int32 → Int32 → Int32 → Int32 → cr_S → Option (Bool × cr_S)) (hk16 : ∀ (x1 : Int32) (x2 : Int32) (x4 : Int32) (x5 : Int32) (S : cr_S), cr_P Γ E 9 (cr_F Γ E cr_vBS) 0 0 S 16 ([(0, .ref (E.2.1 8 0)), (1, .int x1), (2, .int x2), (3, .ref (E.2.1 11 0)), (4, .int x4), (5, .int x5)]) [] (k16 x1 x2 x4 x5 S)) (x1 : Int32) (x2 : Int32) (x4 : Int32) (x5 : Int32) (x6 : Int32) (x7 : Int32) (S : cr_S) : cr_P Γ E 9 (cr_F Γ E cr_vBS) 0 0 S 88 ([(0, .ref (E.2.1 8 0)), (1, .int x1), (2, .int x2), (3, .ref (E.2.1 11 0)), (4, .int x4), (5, .int x5), (6, .int x6), (7, .int x7)]) ([]) (s_L_winds_88 k16 x1 x2 x4 x5 x6 x7 S) := by
  have hEK := X.2.2.2.2.2.2.1
  unfold s_L_winds_88
  refine cr_aload_n X 0 rfl dL_winds_88 ?_
  refine cr_iload X 6 rfl dL_winds_89 ?_
  refine cr_callS X (As := [.ref (E.2.1 8 0), .int x6]) (rest := []) (c_L_number Γ.2.1 E hEK S x6) 2 gL_winds_L_number rfl rfl rfl (by decide +kernel) ⟨Nat.le_of_ble_eq_true rfl, Nat.le_of_ble_eq_true rfl⟩ (by decide) rfl rfl (Nat.le_of_ble_eq_true rfl) dL_winds_91 (fun r91_10 => ?_)
  show cr_P Γ E 9 _ 0 0 r91_10.2 94 ([(0, .ref (E.2.1 8 0)), (1, .int x1), (2, .int x2), (3, .ref (E.2.1 11 0)), (4, .int x4), (5, .int x5), (6, .int x6), (7, .int x7)]) ([.int (cr_b r91_10.1)]) _
  refine cr_ifb_eq X 122 dL_winds_94 rfl ?_ ?_
  · refine cr_iconst X (0 : Int32) (by decide) dL_winds_122 ?_
    exact cr_zret X false rfl rfl rfl dL_winds_123
  · refine cr_iload X 7 rfl dL_winds_97 ?_
    refine cr_iconst X (1 : Int32) (by decide) dL_winds_99 ?_
    refine cr_icmp_le X 124 dL_winds_100 rfl ?_ ?_
    · refine cr_iconst X (0 : Int32) (by decide) dL_winds_124 ?_
      refine cr_istore X ([(8, .int ((0 : Int32))), (0, .ref (E.2.1 8 0)), (1, .int x1), (2, .int x2), (3, .ref (E.2.1 11 0)), (4, .int x4), (5, .int x5), (6, .int x6), (7, .int x7)]) rfl (by decide) dL_winds_125 ?_
      refine cr_sub (lv' := [(0, .ref (E.2.1 8 0)), (1, .int x1), (2, .int x2), (3, .ref (E.2.1 11 0)), (4, .int x4), (5, .int x5), (6, .int x6), (7, .int x7), (8, .int ((0 : Int32)))]) [1, 2, 3, 4, 5, 6, 7, 8, 0] rfl ?_
      exact b_L_winds_127 X k16 hk16 1200 x1 x2 x4 x5 x6 x7 ((0 : Int32)) r91_10.2
    · refine cr_aload_n X 0 rfl dL_winds_103 ?_
      refine cr_bipush X (42 : Int32) (by decide) dL_winds_104 ?_
      refine cr_callV X (As := [.int ((42 : Int32))]) (rest := []) (c_X8_append Γ.2.1 E hEK r91_10.2 ((42 : Int32))) ((cr_b0 E).at rfl rfl) rfl 1 gL_winds_X8_append rfl rfl rfl (by decide +kernel) ⟨Nat.le_of_ble_eq_true rfl, Nat.le_of_ble_eq_true rfl⟩ (by decide) rfl rfl (Nat.le_of_ble_eq_true rfl) dL_winds_106 (fun r106_11 => ?_)
      show cr_P Γ E 9 _ 0 0 r106_11.2 109 ([(0, .ref (E.2.1 8 0)), (1, .int x1), (2, .int x2), (3, .ref (E.2.1 11 0)), (4, .int x4), (5, .int x5), (6, .int x6), (7, .int x7)]) ([.int r106_11.1]) _
      refine cr_iconst X (1 : Int32) (by decide) dL_winds_109 ?_
      refine cr_icmp_lt X 122 dL_winds_110 rfl ?_ ?_
      · refine cr_iconst X (0 : Int32) (by decide) dL_winds_122 ?_
        exact cr_zret X false rfl rfl rfl dL_winds_123
      · refine cr_aload_n X 0 rfl dL_winds_113 ?_
        refine cr_iload X 7 rfl dL_winds_114 ?_
        refine cr_callS X (As := [.ref (E.2.1 8 0), .int x7]) (rest := []) (c_L_number Γ.2.1 E hEK r106_11.2 x7) 2 gL_winds_L_number rfl rfl rfl (by decide +kernel) ⟨Nat.le_of_ble_eq_true rfl, Nat.le_of_ble_eq_true rfl⟩ (by decide) rfl rfl (Nat.le_of_ble_eq_true rfl) dL_winds_116 (fun r116_12 => ?_)
        show cr_P Γ E 9 _ 0 0 r116_12.2 119 ([(0, .ref (E.2.1 8 0)), (1, .int x1), (2, .int x2), (3, .ref (E.2.1 11 0)), (4, .int x4), (5, .int x5), (6, .int x6), (7, .int x7)]) ([.int (cr_b r116_12.1)]) _
        refine cr_ifb_ne X 124 dL_winds_119 rfl ?_ ?_
        · refine cr_iconst X (0 : Int32) (by decide) dL_winds_124 ?_
          refine cr_istore X ([(8, .int ((0 : Int32))), (0, .ref (E.2.1 8 0)), (1, .int x1), (2, .int x2), (3, .ref (E.2.1 11 0)), (4, .int x4), (5, .int x5), (6, .int x6), (7, .int x7)]) rfl (by decide) dL_winds_125 ?_
          refine cr_sub (lv' := [(0, .ref (E.2.1 8 0)), (1, .int x1), (2, .int x2), (3, .ref (E.2.1 11 0)), (4, .int x4), (5, .int x5), (6, .int x6), (7, .int x7), (8, .int ((0 : Int32)))]) [1, 2, 3, 4, 5, 6, 7, 8, 0] rfl ?_
          exact b_L_winds_127 X k16 hk16 1200 x1 x2 x4 x5 x6 x7 ((0 : Int32)) r116_12.2
        · refine cr_iconst X (0 : Int32) (by decide) dL_winds_122 ?_
          exact cr_zret X false rfl rfl rfl dL_winds_123
set_option maxHeartbeats 4000000 in
set_option maxRecDepth 100000 in
theorem b_L_winds_52 {Γ : cr_C} {E : cr_E} (X : cr_X Γ E cL_winds 9 RL wsL_winds rm_L_winds (some .boolean)) (k16 : Int32 → Int32 → Int32 → Int32 → cr_S → Option (Bool × cr_S)) (hk16 : ∀ (x1 : Int32) (x2 : Int32) (x4 : Int32) (x5 : Int32) (S : cr_S), cr_P Γ E 9 (cr_F Γ E cr_vBS) 0 0 S 16 ([(0, .ref (E.2.1 8 0)), (1, .int x1), (2, .int x2), (3, .ref (E.2.1 11 0)), (4, .int x4), (5, .int x5)]) [] (k16 x1 x2 x4 x5 S)) (x1 : Int32) (x2 : Int32) (x4 : Int32) (x5 : Int32) (y0 : Int32) (y1 : Int32) (S : cr_S) : cr_P Γ E 9 (cr_F Γ E cr_vBS) 0 0 S 52 ([(0, .ref (E.2.1 8 0)), (1, .int x1), (2, .int x2), (3, .ref (E.2.1 11 0)), (4, .int x4), (5, .int x5)]) ([.int y0, .int y1]) (s_L_winds_52 k16 x1 x2 x4 x5 y0 y1 S) := by
  have hEK := X.2.2.2.2.2.2.1
  unfold s_L_winds_52
  refine cr_callS X (As := [.int y1, .int y0]) (rest := []) (c_L_at Γ.2.1 E hEK S y1 y0) 2 gL_winds_L_at rfl rfl rfl (by decide +kernel) ⟨Nat.le_of_ble_eq_true rfl, Nat.le_of_ble_eq_true rfl⟩ (by decide) rfl rfl (Nat.le_of_ble_eq_true rfl) dL_winds_52 (fun r52_6 => ?_)
  show cr_P Γ E 9 _ 0 0 S 55 ([(0, .ref (E.2.1 8 0)), (1, .int x1), (2, .int x2), (3, .ref (E.2.1 11 0)), (4, .int x4), (5, .int x5)]) ([.int r52_6]) _
  refine cr_istore X ([(6, .int r52_6), (0, .ref (E.2.1 8 0)), (1, .int x1), (2, .int x2), (3, .ref (E.2.1 11 0)), (4, .int x4), (5, .int x5)]) rfl (by decide) dL_winds_55 ?_
  refine cr_iconst X (1 : Int32) (by decide) dL_winds_57 ?_
  refine cr_iload_n X 2 rfl dL_winds_58 ?_
  refine cr_iload X 6 rfl dL_winds_59 ?_
  refine cr_ishr X dL_winds_61 ?_
  refine cr_iload X 6 rfl dL_winds_62 ?_
  refine cr_iadd X dL_winds_64 ?_
  refine cr_bipush X (10 : Int32) (by decide) dL_winds_65 ?_
  refine cr_callS X (As := [.int (((x1 >>> (x5 &&& 31)) + x5)), .int ((10 : Int32))]) (rest := [.int ((1 : Int32))]) (c_L_at Γ.2.1 E hEK S (((x1 >>> (x5 &&& 31)) + x5)) ((10 : Int32))) 2 gL_winds_L_at rfl rfl rfl (by decide +kernel) ⟨Nat.le_of_ble_eq_true rfl, Nat.le_of_ble_eq_true rfl⟩ (by decide) rfl rfl (Nat.le_of_ble_eq_true rfl) dL_winds_67 (fun r67_7 => ?_)
  show cr_P Γ E 9 _ 0 0 S 70 ([(6, .int r52_6), (0, .ref (E.2.1 8 0)), (1, .int x1), (2, .int x2), (3, .ref (E.2.1 11 0)), (4, .int x4), (5, .int x5)]) ([.int r67_7, .int ((1 : Int32))]) _
  refine cr_iadd X dL_winds_70 ?_
  refine cr_istoreb X (fun v71_8 => [(7, .int v71_8), (6, .int r52_6), (0, .ref (E.2.1 8 0)), (1, .int x1), (2, .int x2), (3, .ref (E.2.1 11 0)), (4, .int x4), (5, .int x5)]) (fun _ => rfl) (by decide) dL_winds_71 (fun v71_8 => ?_)
  refine cr_iload X 7 rfl dL_winds_73 ?_
  refine cr_if_le X 88 dL_winds_75 rfl ?_ ?_
  · refine cr_sub (lv' := [(0, .ref (E.2.1 8 0)), (1, .int x1), (2, .int x2), (3, .ref (E.2.1 11 0)), (4, .int x4), (5, .int x5), (6, .int r52_6), (7, .int v71_8)]) [2, 3, 4, 5, 6, 7, 1, 0] rfl ?_
    exact b_L_winds_88 X k16 hk16 x1 x2 x4 x5 r52_6 v71_8 S
  · refine cr_aload_n X 2 rfl dL_winds_78 ?_
    refine cr_bipush X (44 : Int32) (by decide) dL_winds_79 ?_
    refine cr_callV X (As := [.int ((44 : Int32))]) (rest := []) (c_X8_append Γ.2.1 E hEK S ((44 : Int32))) ((cr_b0 E).at rfl rfl) rfl 1 gL_winds_X8_append rfl rfl rfl (by decide +kernel) ⟨Nat.le_of_ble_eq_true rfl, Nat.le_of_ble_eq_true rfl⟩ (by decide) rfl rfl (Nat.le_of_ble_eq_true rfl) dL_winds_81 (fun r81_9 => ?_)
    show cr_P Γ E 9 _ 0 0 r81_9.2 84 ([(7, .int v71_8), (6, .int r52_6), (0, .ref (E.2.1 8 0)), (1, .int x1), (2, .int x2), (3, .ref (E.2.1 11 0)), (4, .int x4), (5, .int x5)]) ([.int r81_9.1]) _
    refine cr_iconst X (1 : Int32) (by decide) dL_winds_84 ?_
    refine cr_icmp_lt X 122 dL_winds_85 rfl ?_ ?_
    · refine cr_iconst X (0 : Int32) (by decide) dL_winds_122 ?_
      exact cr_zret X false rfl rfl rfl dL_winds_123
    · refine cr_sub (lv' := [(0, .ref (E.2.1 8 0)), (1, .int x1), (2, .int x2), (3, .ref (E.2.1 11 0)), (4, .int x4), (5, .int x5), (6, .int r52_6), (7, .int v71_8)]) [2, 3, 4, 5, 6, 7, 1, 0] rfl ?_
      exact b_L_winds_88 X k16 hk16 x1 x2 x4 x5 r52_6 v71_8 r81_9.2
set_option maxHeartbeats 4000000 in
set_option maxRecDepth 100000 in
theorem b_L_winds_16 {Γ : cr_C} {E : cr_E} (X : cr_X Γ E cL_winds 9 RL wsL_winds rm_L_winds (some .boolean)) : ∀ (n : Nat) (x1 : Int32) (x2 : Int32) (x4 : Int32) (x5 : Int32) (S : cr_S), cr_P Γ E 9 (cr_F Γ E cr_vBS) 0 0 S 16 ([(0, .ref (E.2.1 8 0)), (1, .int x1), (2, .int x2), (3, .ref (E.2.1 11 0)), (4, .int x4), (5, .int x5)]) ([]) (s_L_winds_16 n x1 x2 x4 x5 S) := by
  have hEK := X.2.2.2.2.2.2.1
  intro n
  induction n with
  | zero => intro x1 x2 x4 x5 S; exact cr_none
  | succ n ih =>
    intro x1 x2 x4 x5 S
    rw [s_L_winds_16]
    refine cr_iload X 5 rfl dL_winds_16 ?_
    refine cr_iload X 4 rfl dL_winds_18 ?_
    refine cr_icmp_ge X 160 dL_winds_20 rfl ?_ ?_
    · refine cr_aload_n X 0 rfl dL_winds_160 ?_
      refine cr_callV X (As := []) (rest := []) (c_X8_load Γ.2.1 E hEK S) ((cr_b0 E).at rfl rfl) rfl 0 gL_winds_X8_load rfl rfl rfl (by decide +kernel) ⟨Nat.le_of_ble_eq_true rfl, Nat.le_of_ble_eq_true rfl⟩ (by decide) rfl rfl (Nat.le_of_ble_eq_true rfl) dL_winds_161 (fun r161_4 => ?_)
      show cr_P Γ E 9 _ 0 0 r161_4.2 164 ([(0, .ref (E.2.1 8 0)), (1, .int x1), (2, .int x2), (3, .ref (E.2.1 11 0)), (4, .int x4), (5, .int x5)]) ([.int r161_4.1]) _
      refine cr_aload_n X 3 rfl dL_winds_164 ?_
      refine cr_iconst X (0 : Int32) (by decide) dL_winds_165 ?_
      refine cr_ialdk X 0 (by decide) (by decide) ((cr_k0 E).at rfl rfl) dL_winds_166 ?_
      refine cr_icmp_ne X 174 dL_winds_167 rfl ?_ ?_
      · refine cr_iconst X (0 : Int32) (by decide) dL_winds_174 ?_
        exact cr_zret X false rfl rfl rfl dL_winds_175
      · refine cr_iconst X (1 : Int32) (by decide) dL_winds_170 ?_
        refine cr_goto X 175 dL_winds_171 rfl ?_
        exact cr_zret X true rfl rfl rfl dL_winds_175
    · refine cr_iload_n X 2 rfl dL_winds_23 ?_
      refine cr_iconst X (3 : Int32) (by decide) dL_winds_24 ?_
      refine cr_iload X 5 rfl dL_winds_25 ?_
      refine cr_imul X dL_winds_27 ?_
      refine cr_ishr X dL_winds_28 ?_
      refine cr_bipush X (7 : Int32) (by decide) dL_winds_29 ?_
      refine cr_iload X 5 rfl dL_winds_31 ?_
      refine cr_imul X dL_winds_33 ?_
      refine cr_iadd X dL_winds_34 ?_
      refine cr_iload_n X 1 rfl dL_winds_35 ?_
      refine cr_iconst X (2 : Int32) (by decide) dL_winds_36 ?_
      refine cr_ishr X dL_winds_37 ?_
      refine cr_iconst X (2 : Int32) (by decide) dL_winds_38 ?_
      refine cr_callS X (As := [.int ((x1 >>> ((2 : Int32) &&& 31))), .int ((2 : Int32))]) (rest := [.int (((x2 >>> (((3 : Int32) * x5) &&& 31)) + ((7 : Int32) * x5)))]) (c_L_at Γ.2.1 E hEK S ((x1 >>> ((2 : Int32) &&& 31))) ((2 : Int32))) 2 gL_winds_L_at rfl rfl rfl (by decide +kernel) ⟨Nat.le_of_ble_eq_true rfl, Nat.le_of_ble_eq_true rfl⟩ (by decide) rfl rfl (Nat.le_of_ble_eq_true rfl) dL_winds_39 (fun r39_5 => ?_)
      show cr_P Γ E 9 _ 0 0 S 42 ([(0, .ref (E.2.1 8 0)), (1, .int x1), (2, .int x2), (3, .ref (E.2.1 11 0)), (4, .int x4), (5, .int x5)]) ([.int r39_5, .int (((x2 >>> (((3 : Int32) * x5) &&& 31)) + ((7 : Int32) * x5)))]) _
      refine cr_if_ne X 50 dL_winds_42 rfl ?_ ?_
      · refine cr_bipush X (18 : Int32) (by decide) dL_winds_50 ?_
        refine cr_sub (lv' := [(0, .ref (E.2.1 8 0)), (1, .int x1), (2, .int x2), (3, .ref (E.2.1 11 0)), (4, .int x4), (5, .int x5)]) [0, 1, 2, 3, 4, 5] rfl ?_
        exact b_L_winds_52 X (fun x1a x2a x4a x5a Sa => s_L_winds_16 n x1a x2a x4a x5a Sa) ih x1 x2 x4 x5 ((18 : Int32)) (((x2 >>> (((3 : Int32) * x5) &&& 31)) + ((7 : Int32) * x5))) S
      · refine cr_bipush X (31 : Int32) (by decide) dL_winds_45 ?_
        refine cr_goto X 52 dL_winds_47 rfl ?_
        refine cr_sub (lv' := [(0, .ref (E.2.1 8 0)), (1, .int x1), (2, .int x2), (3, .ref (E.2.1 11 0)), (4, .int x4), (5, .int x5)]) [0, 1, 2, 3, 4, 5] rfl ?_
        exact b_L_winds_52 X (fun x1a x2a x4a x5a Sa => s_L_winds_16 n x1a x2a x4a x5a Sa) ih x1 x2 x4 x5 ((31 : Int32)) (((x2 >>> (((3 : Int32) * x5) &&& 31)) + ((7 : Int32) * x5))) S
set_option maxHeartbeats 4000000 in
set_option maxRecDepth 100000 in
theorem c_L_winds (l : Launch) (E : cr_E) (hEK : cr_EK E) (S : cr_S) (p1 : Int32) (p2 : Int32) : cr_M l E yL_winds wsL_winds rm_L_winds [.ref (E.2.1 8 0), .int p1, .int p2, .ref (E.2.1 11 0)] S cr_vBS (s_L_winds p1 p2 S) := by
  refine cr_enter (cc := cL_winds) (nL := 9) (rt := (some .boolean)) hEK (by decide) rfl (Nat.le_of_ble_eq_true rfl) (fun Γ hΓ X => ?_)
  subst hΓ
  have X : cr_X Γ E cL_winds 9 RL wsL_winds rm_L_winds (some .boolean) := X
  unfold s_L_winds
  show cr_P Γ E 9 _ 0 0 S 0 ([(0, .ref (E.2.1 8 0)), (1, .int p1), (2, .int p2), (3, .ref (E.2.1 11 0))]) [] _
  refine cr_aload_n X 3 rfl dL_winds_0 ?_
  refine cr_iconst X (0 : Int32) (by decide) dL_winds_1 ?_
  refine cr_iconst X (0 : Int32) (by decide) dL_winds_2 ?_
  refine cr_iastSk X 0 (cr_k0 E) (fun _ _ => rfl) (by decide) (by decide) dL_winds_3 (fun S3_1 => ?_)
  refine cr_iconst X (1 : Int32) (by decide) dL_winds_4 ?_
  refine cr_iload_n X 1 rfl dL_winds_5 ?_
  refine cr_iconst X (4 : Int32) (by decide) dL_winds_6 ?_
  refine cr_callS X (As := [.int p1, .int ((4 : Int32))]) (rest := [.int ((1 : Int32))]) (c_L_at Γ.2.1 E hEK S3_1 p1 ((4 : Int32))) 2 gL_winds_L_at rfl rfl rfl (by decide +kernel) ⟨Nat.le_of_ble_eq_true rfl, Nat.le_of_ble_eq_true rfl⟩ (by decide) rfl rfl (Nat.le_of_ble_eq_true rfl) dL_winds_7 (fun r7_2 => ?_)
  show cr_P Γ E 9 _ 0 0 S3_1 10 ([(0, .ref (E.2.1 8 0)), (1, .int p1), (2, .int p2), (3, .ref (E.2.1 11 0))]) ([.int r7_2, .int ((1 : Int32))]) _
  refine cr_iadd X dL_winds_10 ?_
  refine cr_istoreb X (fun v11_3 => [(4, .int v11_3), (0, .ref (E.2.1 8 0)), (1, .int p1), (2, .int p2), (3, .ref (E.2.1 11 0))]) (fun _ => rfl) (by decide) dL_winds_11 (fun v11_3 => ?_)
  refine cr_iconst X (0 : Int32) (by decide) dL_winds_13 ?_
  refine cr_istore X ([(5, .int ((0 : Int32))), (4, .int v11_3), (0, .ref (E.2.1 8 0)), (1, .int p1), (2, .int p2), (3, .ref (E.2.1 11 0))]) rfl (by decide) dL_winds_14 ?_
  refine cr_sub (lv' := [(0, .ref (E.2.1 8 0)), (1, .int p1), (2, .int p2), (3, .ref (E.2.1 11 0)), (4, .int v11_3), (5, .int ((0 : Int32)))]) [2, 3, 4, 5, 1, 0] rfl ?_
  exact b_L_winds_16 X 1200 p1 p2 v11_3 ((0 : Int32)) S3_1
abbrev rm_L_bog : Room := { frames := 5, cells := 0, slots := 0, locals := 125 }
set_option maxHeartbeats 4000000 in
set_option maxRecDepth 100000 in
theorem b_L_bog_201 {Γ : cr_C} {E : cr_E} (X : cr_X Γ E cL_bog 8 RL wsL_bog rm_L_bog (some .boolean)) (x1 : Int32) (x2 : Int32) (S : cr_S) : cr_P Γ E 8 (cr_F Γ E cr_vBS) 0 0 S 201 ([(0, .ref (E.2.1 8 0)), (1, .int x1), (2, .int x2), (4, .ref (E.2.1 9 3))]) ([]) (s_L_bog_201 x1 x2 S) := by
  have hEK := X.2.2.2.2.2.2.1
  unfold s_L_bog_201
  refine cr_aload_n X 0 rfl dL_bog_201 ?_
  refine cr_iload_n X 1 rfl dL_bog_202 ?_
  refine cr_iload_n X 2 rfl dL_bog_203 ?_
  refine cr_callV X (As := [.int x1, .int x2]) (rest := []) (c_X8_setBog Γ.2.1 E hEK S x1 x2) ((cr_b0 E).at rfl rfl) rfl 2 gL_bog_X8_setBog rfl rfl rfl (by decide +kernel) ⟨Nat.le_of_ble_eq_true rfl, Nat.le_of_ble_eq_true rfl⟩ (by decide) rfl rfl (Nat.le_of_ble_eq_true rfl) dL_bog_204 (fun r204_7 => ?_)
  show cr_P Γ E 8 _ 0 0 r204_7.2 207 ([(0, .ref (E.2.1 8 0)), (1, .int x1), (2, .int x2), (4, .ref (E.2.1 9 3))]) ([.int r204_7.1]) _
  refine cr_aload X 3 rfl dL_bog_207 ?_
  refine cr_bipush X (8 : Int32) (by decide) dL_bog_209 ?_
  refine cr_ialdk X 8 (by decide) (by decide) ((cr_n3 E (cr_g9 E)).at rfl rfl) dL_bog_211 ?_
  refine cr_icmp_ne X 219 dL_bog_212 rfl ?_ ?_
  · refine cr_iconst X (0 : Int32) (by decide) dL_bog_219 ?_
    exact cr_zret X false rfl rfl rfl dL_bog_220
  · refine cr_iconst X (1 : Int32) (by decide) dL_bog_215 ?_
    refine cr_goto X 220 dL_bog_216 rfl ?_
    exact cr_zret X true rfl rfl rfl dL_bog_220
set_option maxHeartbeats 4000000 in
set_option maxRecDepth 100000 in
theorem b_L_bog_181 {Γ : cr_C} {E : cr_E} (X : cr_X Γ E cL_bog 8 RL wsL_bog rm_L_bog (some .boolean)) (x1 : Int32) (x2 : Int32) (x5 : Int32) (S : cr_S) : cr_P Γ E 8 (cr_F Γ E cr_vBS) 0 0 S 181 ([(0, .ref (E.2.1 8 0)), (1, .int x1), (2, .int x2), (3, .ref (E.2.1 11 2)), (4, .ref (E.2.1 9 3)), (5, .int x5)]) ([]) (s_L_bog_181 x1 x2 x5 S) := by
  have hEK := X.2.2.2.2.2.2.1
  unfold s_L_bog_181
  refine cr_iload_n X 2 rfl dL_bog_181 ?_
  refine cr_if_le X 201 dL_bog_182 rfl ?_ ?_
  · refine cr_sub (lv' := [(0, .ref (E.2.1 8 0)), (1, .int x1), (2, .int x2), (4, .ref (E.2.1 9 3))]) [0, 1, 2, 4] rfl ?_
    exact b_L_bog_201 X x1 x2 S
  · refine cr_aload_n X 3 rfl dL_bog_185 ?_
    refine cr_iconst X (2 : Int32) (by decide) dL_bog_186 ?_
    refine cr_iload X 5 rfl dL_bog_187 ?_
    refine cr_imul X dL_bog_189 ?_
    refine cr_iload_n X 1 rfl dL_bog_190 ?_
    refine cr_iastS X (cr_k2 E) (fun _ _ => rfl) dL_bog_191 (fun S191_5 => ?_)
    refine cr_aload_n X 3 rfl dL_bog_192 ?_
    refine cr_iconst X (2 : Int32) (by decide) dL_bog_193 ?_
    refine cr_iload X 5 rfl dL_bog_194 ?_
    refine cr_imul X dL_bog_196 ?_
    refine cr_iconst X (1 : Int32) (by decide) dL_bog_197 ?_
    refine cr_iadd X dL_bog_198 ?_
    refine cr_iload_n X 2 rfl dL_bog_199 ?_
    refine cr_iastS X (cr_k2 E) (fun _ _ => rfl) dL_bog_200 (fun S200_6 => ?_)
    refine cr_sub (lv' := [(0, .ref (E.2.1 8 0)), (1, .int x1), (2, .int x2), (4, .ref (E.2.1 9 3))]) [0, 1, 2, 4] rfl ?_
    exact b_L_bog_201 X x1 x2 S200_6
set_option maxHeartbeats 4000000 in
set_option maxRecDepth 100000 in
theorem b_L_bog_145 {Γ : cr_C} {E : cr_E} (X : cr_X Γ E cL_bog 8 RL wsL_bog rm_L_bog (some .boolean)) : ∀ (n : Nat) (x1 : Int32) (x2 : Int32) (x5 : Int32) (x7 : Int32) (S : cr_S), cr_P Γ E 8 (cr_F Γ E cr_vBS) 0 0 S 145 ([(0, .ref (E.2.1 8 0)), (1, .int x1), (2, .int x2), (3, .ref (E.2.1 11 2)), (4, .ref (E.2.1 9 3)), (5, .int x5), (7, .int x7)]) ([]) (s_L_bog_145 n x1 x2 x5 x7 S) := by
  have hEK := X.2.2.2.2.2.2.1
  intro n
  induction n with
  | zero => intro x1 x2 x5 x7 S; exact cr_none
  | succ n ih =>
    intro x1 x2 x5 x7 S
    rw [s_L_bog_145]
    refine cr_iload X 6 rfl dL_bog_145 ?_
    refine cr_iconst X (2 : Int32) (by decide) dL_bog_147 ?_
    refine cr_iload X 5 rfl dL_bog_148 ?_
    refine cr_imul X dL_bog_150 ?_
    refine cr_iconst X (1 : Int32) (by decide) dL_bog_151 ?_
    refine cr_iadd X dL_bog_152 ?_
    refine cr_icmp_le X 172 dL_bog_153 rfl ?_ ?_
    · refine cr_aload X 4 rfl dL_bog_172 ?_
      refine cr_bipush X (8 : Int32) (by decide) dL_bog_174 ?_
      refine cr_dup2 X rfl rfl dL_bog_176 ?_
      refine cr_ialdk X 8 (by decide) (by decide) ((cr_n3 E (cr_g9 E)).at rfl rfl) dL_bog_177 ?_
      refine cr_iconst X (1 : Int32) (by decide) dL_bog_178 ?_
      refine cr_iadd X dL_bog_179 ?_
      refine cr_iastSk X 8 (cr_n3 E (cr_g9 E)) (fun _ _ => rfl) (by decide) (by decide) dL_bog_180 (fun S180_8 => ?_)
      refine cr_sub (lv' := [(0, .ref (E.2.1 8 0)), (1, .int x1), (2, .int x2), (3, .ref (E.2.1 11 2)), (4, .ref (E.2.1 9 3)), (5, .int x5)]) [0, 1, 2, 3, 4, 5] rfl ?_
      exact b_L_bog_181 X x1 x2 x5 S180_8
    · refine cr_aload_n X 3 rfl dL_bog_156 ?_
      refine cr_iload X 6 rfl dL_bog_157 ?_
      refine cr_aload_n X 3 rfl dL_bog_159 ?_
      refine cr_iload X 6 rfl dL_bog_160 ?_
      refine cr_iconst X (2 : Int32) (by decide) dL_bog_162 ?_
      refine cr_isub X dL_bog_163 ?_
      refine cr_iald X ((cr_k2 E).at rfl rfl) dL_bog_164 ?_
      refine cr_iastS X (cr_k2 E) (fun _ _ => rfl) dL_bog_165 (fun S165_9 => ?_)
      refine cr_iinc X (x7 + (-1)) (fun v166_10 => [(7, .int v166_10), (0, .ref (E.2.1 8 0)), (1, .int x1), (2, .int x2), (3, .ref (E.2.1 11 2)), (4, .ref (E.2.1 9 3)), (5, .int x5)]) 6 rfl (congrArg (fun z => x7 + z) (show Int32.ofInt (-1) = (-1 : Int32) by decide)) (fun _ => rfl) (by decide) dL_bog_166 (fun v166_10 => ?_)
      refine cr_goto X 145 dL_bog_169 rfl ?_
      refine cr_sub (lv' := [(0, .ref (E.2.1 8 0)), (1, .int x1), (2, .int x2), (3, .ref (E.2.1 11 2)), (4, .ref (E.2.1 9 3)), (5, .int x5), (7, .int v166_10)]) [1, 2, 3, 4, 5, 6, 0] rfl ?_
      exact ih x1 x2 x5 v166_10 S165_9
set_option maxHeartbeats 4000000 in
set_option maxRecDepth 100000 in
theorem b_L_bog_125 {Γ : cr_C} {E : cr_E} (X : cr_X Γ E cL_bog 8 RL wsL_bog rm_L_bog (some .boolean)) (x1 : Int32) (x2 : Int32) (x5 : Int32) (x6 : Int32) (S : cr_S) : cr_P Γ E 8 (cr_F Γ E cr_vBS) 0 0 S 125 ([(0, .ref (E.2.1 8 0)), (1, .int x1), (2, .int x2), (3, .ref (E.2.1 11 2)), (4, .ref (E.2.1 9 3)), (5, .int x5), (6, .int x6)]) ([]) (s_L_bog_125 x1 x2 x5 x6 S) := by
  have hEK := X.2.2.2.2.2.2.1
  unfold s_L_bog_125
  refine cr_iload X 6 rfl dL_bog_125 ?_
  refine cr_if_ne X 181 dL_bog_127 rfl ?_ ?_
  · refine cr_sub (lv' := [(0, .ref (E.2.1 8 0)), (1, .int x1), (2, .int x2), (3, .ref (E.2.1 11 2)), (4, .ref (E.2.1 9 3)), (5, .int x5)]) [0, 1, 2, 3, 4, 5] rfl ?_
    exact b_L_bog_181 X x1 x2 x5 S
  · refine cr_iload_n X 2 rfl dL_bog_130 ?_
    refine cr_if_le X 181 dL_bog_131 rfl ?_ ?_
    · refine cr_sub (lv' := [(0, .ref (E.2.1 8 0)), (1, .int x1), (2, .int x2), (3, .ref (E.2.1 11 2)), (4, .ref (E.2.1 9 3)), (5, .int x5)]) [0, 1, 2, 3, 4, 5] rfl ?_
      exact b_L_bog_181 X x1 x2 x5 S
    · refine cr_iconst X (2 : Int32) (by decide) dL_bog_134 ?_
      refine cr_aload X 4 rfl dL_bog_135 ?_
      refine cr_bipush X (8 : Int32) (by decide) dL_bog_137 ?_
      refine cr_ialdk X 8 (by decide) (by decide) ((cr_n3 E (cr_g9 E)).at rfl rfl) dL_bog_139 ?_
      refine cr_imul X dL_bog_140 ?_
      refine cr_iconst X (1 : Int32) (by decide) dL_bog_141 ?_
      refine cr_iadd X dL_bog_142 ?_
      refine cr_istoreb X (fun v143_4 => [(7, .int v143_4), (0, .ref (E.2.1 8 0)), (1, .int x1), (2, .int x2), (3, .ref (E.2.1 11 2)), (4, .ref (E.2.1 9 3)), (5, .int x5), (6, .int x6)]) (fun _ => rfl) (by decide) dL_bog_143 (fun v143_4 => ?_)
      refine cr_sub (lv' := [(0, .ref (E.2.1 8 0)), (1, .int x1), (2, .int x2), (3, .ref (E.2.1 11 2)), (4, .ref (E.2.1 9 3)), (5, .int x5), (7, .int v143_4)]) [1, 2, 3, 4, 5, 6, 0] rfl ?_
      exact b_L_bog_145 X 1200 x1 x2 x5 v143_4 S
set_option maxHeartbeats 4000000 in
set_option maxRecDepth 100000 in
theorem b_L_bog_97 {Γ : cr_C} {E : cr_E} (X : cr_X Γ E cL_bog 8 RL wsL_bog rm_L_bog (some .boolean)) : ∀ (n : Nat) (x1 : Int32) (x2 : Int32) (x5 : Int32) (x6 : Int32) (x7 : Int32) (S : cr_S), cr_P Γ E 8 (cr_F Γ E cr_vBS) 0 0 S 97 ([(0, .ref (E.2.1 8 0)), (1, .int x1), (2, .int x2), (3, .ref (E.2.1 11 2)), (4, .ref (E.2.1 9 3)), (5, .int x5), (6, .int x6), (7, .int x7)]) ([]) (s_L_bog_97 n x1 x2 x5 x6 x7 S) := by
  have hEK := X.2.2.2.2.2.2.1
  intro n
  induction n with
  | zero => intro x1 x2 x5 x6 x7 S; exact cr_none
  | succ n ih =>
    intro x1 x2 x5 x6 x7 S
    rw [s_L_bog_97]
    refine cr_iload X 7 rfl dL_bog_97 ?_
    refine cr_iconst X (2 : Int32) (by decide) dL_bog_99 ?_
    refine cr_aload X 4 rfl dL_bog_100 ?_
    refine cr_bipush X (8 : Int32) (by decide) dL_bog_102 ?_
    refine cr_ialdk X 8 (by decide) (by decide) ((cr_n3 E (cr_g9 E)).at rfl rfl) dL_bog_104 ?_
    refine cr_imul X dL_bog_105 ?_
    refine cr_icmp_ge X 125 dL_bog_106 rfl ?_ ?_
    · refine cr_sub (lv' := [(0, .ref (E.2.1 8 0)), (1, .int x1), (2, .int x2), (3, .ref (E.2.1 11 2)), (4, .ref (E.2.1 9 3)), (5, .int x5), (6, .int x6)]) [0, 1, 2, 3, 4, 5, 6] rfl ?_
      exact b_L_bog_125 X x1 x2 x5 x6 S
    · refine cr_aload_n X 3 rfl dL_bog_109 ?_
      refine cr_iload X 7 rfl dL_bog_110 ?_
      refine cr_aload_n X 3 rfl dL_bog_112 ?_
      refine cr_iload X 7 rfl dL_bog_113 ?_
      refine cr_iconst X (2 : Int32) (by decide) dL_bog_115 ?_
      refine cr_iadd X dL_bog_116 ?_
      refine cr_iald X ((cr_k2 E).at rfl rfl) dL_bog_117 ?_
      refine cr_iastS X (cr_k2 E) (fun _ _ => rfl) dL_bog_118 (fun S118_11 => ?_)
      refine cr_iinc X (x7 + 1) (fun v119_12 => [(7, .int v119_12), (0, .ref (E.2.1 8 0)), (1, .int x1), (2, .int x2), (3, .ref (E.2.1 11 2)), (4, .ref (E.2.1 9 3)), (5, .int x5), (6, .int x6)]) 7 rfl rfl (fun _ => rfl) (by decide) dL_bog_119 (fun v119_12 => ?_)
      refine cr_goto X 97 dL_bog_122 rfl ?_
      refine cr_sub (lv' := [(0, .ref (E.2.1 8 0)), (1, .int x1), (2, .int x2), (3, .ref (E.2.1 11 2)), (4, .ref (E.2.1 9 3)), (5, .int x5), (6, .int x6), (7, .int v119_12)]) [1, 2, 3, 4, 5, 6, 7, 0] rfl ?_
      exact ih x1 x2 x5 x6 v119_12 S118_11
set_option maxHeartbeats 4000000 in
set_option maxRecDepth 100000 in
theorem b_L_bog_73 {Γ : cr_C} {E : cr_E} (X : cr_X Γ E cL_bog 8 RL wsL_bog rm_L_bog (some .boolean)) (x1 : Int32) (x2 : Int32) (x5 : Int32) (x6 : Int32) (S : cr_S) : cr_P Γ E 8 (cr_F Γ E cr_vBS) 0 0 S 73 ([(0, .ref (E.2.1 8 0)), (1, .int x1), (2, .int x2), (3, .ref (E.2.1 11 2)), (4, .ref (E.2.1 9 3)), (5, .int x5), (6, .int x6)]) ([]) (s_L_bog_73 x1 x2 x5 x6 S) := by
  have hEK := X.2.2.2.2.2.2.1
  unfold s_L_bog_73
  refine cr_iload X 6 rfl dL_bog_73 ?_
  refine cr_if_eq X 125 dL_bog_75 rfl ?_ ?_
  · refine cr_sub (lv' := [(0, .ref (E.2.1 8 0)), (1, .int x1), (2, .int x2), (3, .ref (E.2.1 11 2)), (4, .ref (E.2.1 9 3)), (5, .int x5), (6, .int x6)]) [0, 1, 2, 3, 4, 5, 6] rfl ?_
    exact b_L_bog_125 X x1 x2 x5 x6 S
  · refine cr_iload_n X 2 rfl dL_bog_78 ?_
    refine cr_if_ne X 125 dL_bog_79 rfl ?_ ?_
    · refine cr_sub (lv' := [(0, .ref (E.2.1 8 0)), (1, .int x1), (2, .int x2), (3, .ref (E.2.1 11 2)), (4, .ref (E.2.1 9 3)), (5, .int x5), (6, .int x6)]) [0, 1, 2, 3, 4, 5, 6] rfl ?_
      exact b_L_bog_125 X x1 x2 x5 x6 S
    · refine cr_aload X 4 rfl dL_bog_82 ?_
      refine cr_bipush X (8 : Int32) (by decide) dL_bog_84 ?_
      refine cr_dup2 X rfl rfl dL_bog_86 ?_
      refine cr_ialdk X 8 (by decide) (by decide) ((cr_n3 E (cr_g9 E)).at rfl rfl) dL_bog_87 ?_
      refine cr_iconst X (1 : Int32) (by decide) dL_bog_88 ?_
      refine cr_isub X dL_bog_89 ?_
      refine cr_iastSk X 8 (cr_n3 E (cr_g9 E)) (fun _ _ => rfl) (by decide) (by decide) dL_bog_90 (fun S90_2 => ?_)
      refine cr_iconst X (2 : Int32) (by decide) dL_bog_91 ?_
      refine cr_iload X 5 rfl dL_bog_92 ?_
      refine cr_imul X dL_bog_94 ?_
      refine cr_istoreb X (fun v95_3 => [(7, .int v95_3), (0, .ref (E.2.1 8 0)), (1, .int x1), (2, .int x2), (3, .ref (E.2.1 11 2)), (4, .ref (E.2.1 9 3)), (5, .int x5), (6, .int x6)]) (fun _ => rfl) (by decide) dL_bog_95 (fun v95_3 => ?_)
      refine cr_sub (lv' := [(0, .ref (E.2.1 8 0)), (1, .int x1), (2, .int x2), (3, .ref (E.2.1 11 2)), (4, .ref (E.2.1 9 3)), (5, .int x5), (6, .int x6), (7, .int v95_3)]) [1, 2, 3, 4, 5, 6, 7, 0] rfl ?_
      exact b_L_bog_97 X 1200 x1 x2 x5 x6 v95_3 S90_2
set_option maxHeartbeats 4000000 in
set_option maxRecDepth 100000 in
theorem b_L_bog_54 {Γ : cr_C} {E : cr_E} (X : cr_X Γ E cL_bog 8 RL wsL_bog rm_L_bog (some .boolean)) (x1 : Int32) (x2 : Int32) (x5 : Int32) (y0 : Int32) (S : cr_S) : cr_P Γ E 8 (cr_F Γ E cr_vBS) 0 0 S 54 ([(0, .ref (E.2.1 8 0)), (1, .int x1), (2, .int x2), (3, .ref (E.2.1 11 2)), (4, .ref (E.2.1 9 3)), (5, .int x5)]) ([.int y0]) (s_L_bog_54 x1 x2 x5 y0 S) := by
  have hEK := X.2.2.2.2.2.2.1
  unfold s_L_bog_54
  refine cr_istore X ([(6, .int y0), (0, .ref (E.2.1 8 0)), (1, .int x1), (2, .int x2), (3, .ref (E.2.1 11 2)), (4, .ref (E.2.1 9 3)), (5, .int x5)]) rfl (by decide) dL_bog_54 ?_
  refine cr_iload X 0 rfl dL_bog_56 ?_
  refine cr_if_ne X 73 dL_bog_58 rfl ?_ ?_
  · refine cr_sub (lv' := [(0, .ref (E.2.1 8 0)), (1, .int x1), (2, .int x2), (3, .ref (E.2.1 11 2)), (4, .ref (E.2.1 9 3)), (5, .int x5), (6, .int y0)]) [1, 2, 3, 4, 5, 6, 0] rfl ?_
    exact b_L_bog_73 X x1 x2 x5 y0 S
  · refine cr_aload X 5 rfl dL_bog_61 ?_
    refine cr_bipush X (8 : Int32) (by decide) dL_bog_63 ?_
    refine cr_ialdk X 8 (by decide) (by decide) ((cr_n3 E (cr_g9 E)).at rfl rfl) dL_bog_65 ?_
    refine cr_bipush X (6 : Int32) (by decide) dL_bog_66 ?_
    refine cr_icmp_ne X 73 dL_bog_68 rfl ?_ ?_
    · refine cr_sub (lv' := [(0, .ref (E.2.1 8 0)), (1, .int x1), (2, .int x2), (3, .ref (E.2.1 11 2)), (4, .ref (E.2.1 9 3)), (5, .int x5), (6, .int y0)]) [1, 2, 3, 4, 5, 6, 0] rfl ?_
      exact b_L_bog_73 X x1 x2 x5 y0 S
    · refine cr_iconst X (1 : Int32) (by decide) dL_bog_71 ?_
      exact cr_zret X true rfl rfl rfl dL_bog_72
set_option maxHeartbeats 4000000 in
set_option maxRecDepth 100000 in
theorem b_L_bog_29 {Γ : cr_C} {E : cr_E} (X : cr_X Γ E cL_bog 8 RL wsL_bog rm_L_bog (some .boolean)) (x1 : Int32) (x2 : Int32) (x5 : Int32) (S : cr_S) : cr_P Γ E 8 (cr_F Γ E cr_vBS) 0 0 S 29 ([(0, .ref (E.2.1 8 0)), (1, .int x1), (2, .int x2), (3, .ref (E.2.1 11 2)), (4, .ref (E.2.1 9 3)), (5, .int x5)]) ([]) (s_L_bog_29 x1 x2 x5 S) := by
  have hEK := X.2.2.2.2.2.2.1
  unfold s_L_bog_29
  refine cr_iload X 5 rfl dL_bog_29 ?_
  refine cr_aload X 4 rfl dL_bog_31 ?_
  refine cr_bipush X (8 : Int32) (by decide) dL_bog_33 ?_
  refine cr_ialdk X 8 (by decide) (by decide) ((cr_n3 E (cr_g9 E)).at rfl rfl) dL_bog_35 ?_
  refine cr_icmp_ge X 53 dL_bog_36 rfl ?_ ?_
  · refine cr_iconst X (0 : Int32) (by decide) dL_bog_53 ?_
    refine cr_sub (lv' := [(0, .ref (E.2.1 8 0)), (1, .int x1), (2, .int x2), (3, .ref (E.2.1 11 2)), (4, .ref (E.2.1 9 3)), (5, .int x5)]) [0, 1, 2, 3, 4, 5] rfl ?_
    exact b_L_bog_54 X x1 x2 x5 ((0 : Int32)) S
  · refine cr_aload_n X 3 rfl dL_bog_39 ?_
    refine cr_iconst X (2 : Int32) (by decide) dL_bog_40 ?_
    refine cr_iload X 5 rfl dL_bog_41 ?_
    refine cr_imul X dL_bog_43 ?_
    refine cr_iald X ((cr_k2 E).at rfl rfl) dL_bog_44 ?_
    refine cr_iload_n X 1 rfl dL_bog_45 ?_
    refine cr_icmp_ne X 53 dL_bog_46 rfl ?_ ?_
    · refine cr_iconst X (0 : Int32) (by decide) dL_bog_53 ?_
      refine cr_sub (lv' := [(0, .ref (E.2.1 8 0)), (1, .int x1), (2, .int x2), (3, .ref (E.2.1 11 2)), (4, .ref (E.2.1 9 3)), (5, .int x5)]) [0, 1, 2, 3, 4, 5] rfl ?_
      exact b_L_bog_54 X x1 x2 x5 ((0 : Int32)) S
    · refine cr_iconst X (1 : Int32) (by decide) dL_bog_49 ?_
      refine cr_goto X 54 dL_bog_50 rfl ?_
      refine cr_sub (lv' := [(0, .ref (E.2.1 8 0)), (1, .int x1), (2, .int x2), (3, .ref (E.2.1 11 2)), (4, .ref (E.2.1 9 3)), (5, .int x5)]) [0, 1, 2, 3, 4, 5] rfl ?_
      exact b_L_bog_54 X x1 x2 x5 ((1 : Int32)) S
set_option maxHeartbeats 4000000 in
set_option maxRecDepth 100000 in
theorem b_L_bog_3 {Γ : cr_C} {E : cr_E} (X : cr_X Γ E cL_bog 8 RL wsL_bog rm_L_bog (some .boolean)) : ∀ (n : Nat) (x1 : Int32) (x2 : Int32) (x5 : Int32) (S : cr_S), cr_P Γ E 8 (cr_F Γ E cr_vBS) 0 0 S 3 ([(0, .ref (E.2.1 8 0)), (1, .int x1), (2, .int x2), (3, .ref (E.2.1 11 2)), (4, .ref (E.2.1 9 3)), (5, .int x5)]) ([]) (s_L_bog_3 n x1 x2 x5 S) := by
  have hEK := X.2.2.2.2.2.2.1
  intro n
  induction n with
  | zero => intro x1 x2 x5 S; exact cr_none
  | succ n ih =>
    intro x1 x2 x5 S
    rw [s_L_bog_3]
    refine cr_iload X 5 rfl dL_bog_3 ?_
    refine cr_aload X 4 rfl dL_bog_5 ?_
    refine cr_bipush X (8 : Int32) (by decide) dL_bog_7 ?_
    refine cr_ialdk X 8 (by decide) (by decide) ((cr_n3 E (cr_g9 E)).at rfl rfl) dL_bog_9 ?_
    refine cr_icmp_ge X 29 dL_bog_10 rfl ?_ ?_
    · refine cr_sub (lv' := [(0, .ref (E.2.1 8 0)), (1, .int x1), (2, .int x2), (3, .ref (E.2.1 11 2)), (4, .ref (E.2.1 9 3)), (5, .int x5)]) [0, 1, 2, 3, 4, 5] rfl ?_
      exact b_L_bog_29 X x1 x2 x5 S
    · refine cr_aload_n X 3 rfl dL_bog_13 ?_
      refine cr_iconst X (2 : Int32) (by decide) dL_bog_14 ?_
      refine cr_iload X 5 rfl dL_bog_15 ?_
      refine cr_imul X dL_bog_17 ?_
      refine cr_iald X ((cr_k2 E).at rfl rfl) dL_bog_18 ?_
      refine cr_iload_n X 1 rfl dL_bog_19 ?_
      refine cr_icmp_ge X 29 dL_bog_20 rfl ?_ ?_
      · refine cr_sub (lv' := [(0, .ref (E.2.1 8 0)), (1, .int x1), (2, .int x2), (3, .ref (E.2.1 11 2)), (4, .ref (E.2.1 9 3)), (5, .int x5)]) [0, 1, 2, 3, 4, 5] rfl ?_
        exact b_L_bog_29 X x1 x2 x5 S
      · refine cr_iinc X (x5 + 1) (fun v23_1 => [(5, .int v23_1), (0, .ref (E.2.1 8 0)), (1, .int x1), (2, .int x2), (3, .ref (E.2.1 11 2)), (4, .ref (E.2.1 9 3))]) 5 rfl rfl (fun _ => rfl) (by decide) dL_bog_23 (fun v23_1 => ?_)
        refine cr_goto X 3 dL_bog_26 rfl ?_
        refine cr_sub (lv' := [(0, .ref (E.2.1 8 0)), (1, .int x1), (2, .int x2), (3, .ref (E.2.1 11 2)), (4, .ref (E.2.1 9 3)), (5, .int v23_1)]) [1, 2, 3, 4, 5, 0] rfl ?_
        exact ih x1 x2 v23_1 S
set_option maxHeartbeats 4000000 in
set_option maxRecDepth 100000 in
theorem c_L_bog (l : Launch) (E : cr_E) (hEK : cr_EK E) (S : cr_S) (p1 : Int32) (p2 : Int32) : cr_M l E yL_bog wsL_bog rm_L_bog [.ref (E.2.1 8 0), .int p1, .int p2, .ref (E.2.1 11 2), .ref (E.2.1 9 3)] S cr_vBS (s_L_bog p1 p2 S) := by
  refine cr_enter (cc := cL_bog) (nL := 8) (rt := (some .boolean)) hEK (by decide) rfl (Nat.le_of_ble_eq_true rfl) (fun Γ hΓ X => ?_)
  subst hΓ
  have X : cr_X Γ E cL_bog 8 RL wsL_bog rm_L_bog (some .boolean) := X
  unfold s_L_bog
  show cr_P Γ E 8 _ 0 0 S 0 ([(0, .ref (E.2.1 8 0)), (1, .int p1), (2, .int p2), (3, .ref (E.2.1 11 2)), (4, .ref (E.2.1 9 3))]) [] _
  refine cr_iconst X (0 : Int32) (by decide) dL_bog_0 ?_
  refine cr_istore X ([(5, .int ((0 : Int32))), (0, .ref (E.2.1 8 0)), (1, .int p1), (2, .int p2), (3, .ref (E.2.1 11 2)), (4, .ref (E.2.1 9 3))]) rfl (by decide) dL_bog_1 ?_
  refine cr_sub (lv' := [(0, .ref (E.2.1 8 0)), (1, .int p1), (2, .int p2), (3, .ref (E.2.1 11 2)), (4, .ref (E.2.1 9 3)), (5, .int ((0 : Int32)))]) [1, 2, 3, 4, 5, 0] rfl ?_
  exact b_L_bog_3 X 1200 p1 p2 ((0 : Int32)) S
abbrev rm_L_act : Room := { frames := 6, cells := 0, slots := 0, locals := 152 }
set_option maxHeartbeats 4000000 in
set_option maxRecDepth 100000 in
theorem b_L_act_725 {Γ : cr_C} {E : cr_E} (X : cr_X Γ E cL_act 15 RL wsL_act rm_L_act (some .boolean)) : ∀ (n : Nat) (x12 : Int32) (x13 : Int32) (x14 : Int32) (S : cr_S), cr_P Γ E 15 (cr_F Γ E cr_vBS) 0 0 S 725 ([(0, .ref (E.2.1 8 0)), (4, .ref (E.2.1 9 0)), (5, .ref (E.2.1 9 1)), (6, .ref (E.2.1 9 2)), (7, .ref (E.2.1 11 0)), (8, .ref (E.2.1 11 1)), (9, .ref (E.2.1 11 2)), (10, .ref (E.2.1 9 3)), (12, .int x12), (13, .int x13), (14, .int x14)]) ([]) (s_L_act_725 n x12 x13 x14 S) := by
  have hEK := X.2.2.2.2.2.2.1
  intro n
  induction n with
  | zero => intro x12 x13 x14 S; exact cr_none
  | succ n ih =>
    intro x12 x13 x14 S
    rw [s_L_act_725]
    refine cr_iload X 10 rfl dL_act_725 ?_
    refine cr_iload X 8 rfl dL_act_727 ?_
    refine cr_icmp_ge X 760 dL_act_729 rfl ?_ ?_
    · refine cr_aload_n X 0 rfl dL_act_760 ?_
      refine cr_iload X 8 rfl dL_act_761 ?_
      refine cr_callV X (As := [.int x12]) (rest := []) (c_X8_pass Γ.2.1 E hEK S x12) ((cr_b0 E).at rfl rfl) rfl 1 gL_act_X8_pass rfl rfl rfl (by decide +kernel) ⟨Nat.le_of_ble_eq_true rfl, Nat.le_of_ble_eq_true rfl⟩ (by decide) rfl rfl (Nat.le_of_ble_eq_true rfl) dL_act_763 (fun r763_27 => ?_)
      show cr_P Γ E 15 _ 0 0 r763_27.2 766 ([(0, .ref (E.2.1 8 0)), (4, .ref (E.2.1 9 0)), (5, .ref (E.2.1 9 1)), (6, .ref (E.2.1 9 2)), (7, .ref (E.2.1 11 0)), (8, .ref (E.2.1 11 1)), (9, .ref (E.2.1 11 2)), (10, .ref (E.2.1 9 3)), (12, .int x12), (13, .int x13), (14, .int x14)]) ([.int r763_27.1]) _
      refine cr_iload X 9 rfl dL_act_766 ?_
      refine cr_icmp_ne X 775 dL_act_768 rfl ?_ ?_
      · refine cr_iconst X (0 : Int32) (by decide) dL_act_775 ?_
        exact cr_zret X false rfl rfl rfl dL_act_776
      · refine cr_iconst X (1 : Int32) (by decide) dL_act_771 ?_
        refine cr_goto X 776 dL_act_772 rfl ?_
        exact cr_zret X true rfl rfl rfl dL_act_776
    · refine cr_iload X 9 rfl dL_act_732 ?_
      refine cr_aload X 1 rfl dL_act_734 ?_
      refine cr_aload X 2 rfl dL_act_736 ?_
      refine cr_aload X 3 rfl dL_act_738 ?_
      refine cr_aload X 4 rfl dL_act_740 ?_
      refine cr_aload X 5 rfl dL_act_742 ?_
      refine cr_aload X 6 rfl dL_act_744 ?_
      refine cr_aload X 7 rfl dL_act_746 ?_
      refine cr_callS X (As := [.ref (E.2.1 9 0), .ref (E.2.1 9 1), .ref (E.2.1 9 2), .ref (E.2.1 11 0), .ref (E.2.1 11 1), .ref (E.2.1 11 2), .ref (E.2.1 9 3)]) (rest := [.int x13]) (c_L_hour_S Γ.2.1 E hEK S (cr_g9 E)) 7 gL_act_L_hour rfl rfl rfl (by decide +kernel) ⟨Nat.le_of_ble_eq_true rfl, Nat.le_of_ble_eq_true rfl⟩ (by decide) rfl rfl (Nat.le_of_ble_eq_true rfl) dL_act_748 (fun r748_28 => ?_)
      show cr_P Γ E 15 _ 0 0 (cr_us S 9 r748_28.2) 751 ([(0, .ref (E.2.1 8 0)), (4, .ref (E.2.1 9 0)), (5, .ref (E.2.1 9 1)), (6, .ref (E.2.1 9 2)), (7, .ref (E.2.1 11 0)), (8, .ref (E.2.1 11 1)), (9, .ref (E.2.1 11 2)), (10, .ref (E.2.1 9 3)), (12, .int x12), (13, .int x13), (14, .int x14)]) ([.int r748_28.1, .int x13]) _
      refine cr_bds (fun S748_29 => ?_)
      refine cr_iadd X dL_act_751 ?_
      refine cr_istoreb X (fun v752_30 => [(13, .int v752_30), (0, .ref (E.2.1 8 0)), (4, .ref (E.2.1 9 0)), (5, .ref (E.2.1 9 1)), (6, .ref (E.2.1 9 2)), (7, .ref (E.2.1 11 0)), (8, .ref (E.2.1 11 1)), (9, .ref (E.2.1 11 2)), (10, .ref (E.2.1 9 3)), (12, .int x12), (14, .int x14)]) (fun _ => rfl) (by decide) dL_act_752 (fun v752_30 => ?_)
      refine cr_iinc X (x14 + 1) (fun v754_31 => [(14, .int v754_31), (13, .int v752_30), (0, .ref (E.2.1 8 0)), (4, .ref (E.2.1 9 0)), (5, .ref (E.2.1 9 1)), (6, .ref (E.2.1 9 2)), (7, .ref (E.2.1 11 0)), (8, .ref (E.2.1 11 1)), (9, .ref (E.2.1 11 2)), (10, .ref (E.2.1 9 3)), (12, .int x12)]) 10 rfl rfl (fun _ => rfl) (by decide) dL_act_754 (fun v754_31 => ?_)
      refine cr_goto X 725 dL_act_757 rfl ?_
      refine cr_sub (lv' := [(0, .ref (E.2.1 8 0)), (4, .ref (E.2.1 9 0)), (5, .ref (E.2.1 9 1)), (6, .ref (E.2.1 9 2)), (7, .ref (E.2.1 11 0)), (8, .ref (E.2.1 11 1)), (9, .ref (E.2.1 11 2)), (10, .ref (E.2.1 9 3)), (12, .int x12), (13, .int v752_30), (14, .int v754_31)]) [2, 3, 4, 5, 6, 7, 8, 9, 10, 1, 0] rfl ?_
      exact ih x12 v752_30 v754_31 S748_29
set_option maxHeartbeats 4000000 in
set_option maxRecDepth 100000 in
theorem b_L_act_713 {Γ : cr_C} {E : cr_E} (X : cr_X Γ E cL_act 15 RL wsL_act rm_L_act (some .boolean)) (y0 : Int32) (y1 : Int32) (y2 : Int32) (S : cr_S) : cr_P Γ E 15 (cr_F Γ E cr_vBS) 0 0 S 713 ([(0, .ref (E.2.1 8 0)), (4, .ref (E.2.1 9 0)), (5, .ref (E.2.1 9 1)), (6, .ref (E.2.1 9 2)), (7, .ref (E.2.1 11 0)), (8, .ref (E.2.1 11 1)), (9, .ref (E.2.1 11 2)), (10, .ref (E.2.1 9 3))]) ([.int y0, .int y1, .int y2]) (s_L_act_713 y0 y1 y2 S) := by
  have hEK := X.2.2.2.2.2.2.1
  unfold s_L_act_713
  refine cr_callS X (As := [.int y1, .int y0]) (rest := [.int y2]) (c_L_at Γ.2.1 E hEK S y1 y0) 2 gL_act_L_at rfl rfl rfl (by decide +kernel) ⟨Nat.le_of_ble_eq_true rfl, Nat.le_of_ble_eq_true rfl⟩ (by decide) rfl rfl (Nat.le_of_ble_eq_true rfl) dL_act_713 (fun r713_25 => ?_)
  show cr_P Γ E 15 _ 0 0 S 716 ([(0, .ref (E.2.1 8 0)), (4, .ref (E.2.1 9 0)), (5, .ref (E.2.1 9 1)), (6, .ref (E.2.1 9 2)), (7, .ref (E.2.1 11 0)), (8, .ref (E.2.1 11 1)), (9, .ref (E.2.1 11 2)), (10, .ref (E.2.1 9 3))]) ([.int r713_25, .int y2]) _
  refine cr_iadd X dL_act_716 ?_
  refine cr_istoreb X (fun v717_26 => [(12, .int v717_26), (0, .ref (E.2.1 8 0)), (4, .ref (E.2.1 9 0)), (5, .ref (E.2.1 9 1)), (6, .ref (E.2.1 9 2)), (7, .ref (E.2.1 11 0)), (8, .ref (E.2.1 11 1)), (9, .ref (E.2.1 11 2)), (10, .ref (E.2.1 9 3))]) (fun _ => rfl) (by decide) dL_act_717 (fun v717_26 => ?_)
  refine cr_iconst X (0 : Int32) (by decide) dL_act_719 ?_
  refine cr_istore X ([(13, .int ((0 : Int32))), (12, .int v717_26), (0, .ref (E.2.1 8 0)), (4, .ref (E.2.1 9 0)), (5, .ref (E.2.1 9 1)), (6, .ref (E.2.1 9 2)), (7, .ref (E.2.1 11 0)), (8, .ref (E.2.1 11 1)), (9, .ref (E.2.1 11 2)), (10, .ref (E.2.1 9 3))]) rfl (by decide) dL_act_720 ?_
  refine cr_iconst X (0 : Int32) (by decide) dL_act_722 ?_
  refine cr_istore X ([(14, .int ((0 : Int32))), (13, .int ((0 : Int32))), (12, .int v717_26), (0, .ref (E.2.1 8 0)), (4, .ref (E.2.1 9 0)), (5, .ref (E.2.1 9 1)), (6, .ref (E.2.1 9 2)), (7, .ref (E.2.1 11 0)), (8, .ref (E.2.1 11 1)), (9, .ref (E.2.1 11 2)), (10, .ref (E.2.1 9 3))]) rfl (by decide) dL_act_723 ?_
  refine cr_sub (lv' := [(0, .ref (E.2.1 8 0)), (4, .ref (E.2.1 9 0)), (5, .ref (E.2.1 9 1)), (6, .ref (E.2.1 9 2)), (7, .ref (E.2.1 11 0)), (8, .ref (E.2.1 11 1)), (9, .ref (E.2.1 11 2)), (10, .ref (E.2.1 9 3)), (12, .int v717_26), (13, .int ((0 : Int32))), (14, .int ((0 : Int32)))]) [3, 4, 5, 6, 7, 8, 9, 10, 2, 1, 0] rfl ?_
  exact b_L_act_725 X 1200 v717_26 ((0 : Int32)) ((0 : Int32)) S
set_option maxHeartbeats 4000000 in
set_option maxRecDepth 100000 in
theorem b_L_act_511 {Γ : cr_C} {E : cr_E} (X : cr_X Γ E cL_act 15 RL wsL_act rm_L_act (some .boolean)) : ∀ (n : Nat) (x11 : Int32) (x13 : Int32) (x14 : Int32) (S : cr_S), cr_P Γ E 15 (cr_F Γ E cr_vBS) 0 0 S 511 ([(0, .ref (E.2.1 8 0)), (6, .ref (E.2.1 9 2)), (11, .int x11), (13, .int x13), (14, .int x14)]) ([]) (s_L_act_511 n x11 x13 x14 S) := by
  have hEK := X.2.2.2.2.2.2.1
  intro n
  induction n with
  | zero => intro x11 x13 x14 S; exact cr_none
  | succ n ih =>
    intro x11 x13 x14 S
    rw [s_L_act_511]
    refine cr_iload X 4 rfl dL_act_511 ?_
    refine cr_iload X 3 rfl dL_act_513 ?_
    refine cr_iconst X (1 : Int32) (by decide) dL_act_515 ?_
    refine cr_iadd X dL_act_516 ?_
    refine cr_icmp_le X 538 dL_act_517 rfl ?_ ?_
    · refine cr_aload X 1 rfl dL_act_538 ?_
      refine cr_iload X 3 rfl dL_act_540 ?_
      refine cr_iconst X (1 : Int32) (by decide) dL_act_542 ?_
      refine cr_iadd X dL_act_543 ?_
      refine cr_iload X 2 rfl dL_act_544 ?_
      refine cr_iastS X (cr_n2 E (cr_g9 E)) (fun _ _ => rfl) dL_act_546 (fun S546_35 => ?_)
      refine cr_aload_n X 0 rfl dL_act_547 ?_
      refine cr_iload X 2 rfl dL_act_548 ?_
      refine cr_iload X 3 rfl dL_act_550 ?_
      refine cr_callV X (As := [.int x11, .int x13]) (rest := []) (c_X8_plan Γ.2.1 E hEK S546_35 x11 x13) ((cr_b0 E).at rfl rfl) rfl 2 gL_act_X8_plan rfl rfl rfl (by decide +kernel) ⟨Nat.le_of_ble_eq_true rfl, Nat.le_of_ble_eq_true rfl⟩ (by decide) rfl rfl (Nat.le_of_ble_eq_true rfl) dL_act_552 (fun r552_36 => ?_)
      show cr_P Γ E 15 _ 0 0 r552_36.2 555 ([(0, .ref (E.2.1 8 0)), (6, .ref (E.2.1 9 2)), (11, .int x11), (13, .int x13), (14, .int x14)]) ([.int r552_36.1]) _
      refine cr_aload X 1 rfl dL_act_555 ?_
      refine cr_iconst X (0 : Int32) (by decide) dL_act_557 ?_
      refine cr_ialdk X 0 (by decide) (by decide) ((cr_n2 E (cr_g9 E)).at rfl rfl) dL_act_558 ?_
      refine cr_icmp_ne X 566 dL_act_559 rfl ?_ ?_
      · refine cr_iconst X (0 : Int32) (by decide) dL_act_566 ?_
        exact cr_zret X false rfl rfl rfl dL_act_567
      · refine cr_iconst X (1 : Int32) (by decide) dL_act_562 ?_
        refine cr_goto X 567 dL_act_563 rfl ?_
        exact cr_zret X true rfl rfl rfl dL_act_567
    · refine cr_aload X 1 rfl dL_act_520 ?_
      refine cr_iload X 4 rfl dL_act_522 ?_
      refine cr_aload X 1 rfl dL_act_524 ?_
      refine cr_iload X 4 rfl dL_act_526 ?_
      refine cr_iconst X (1 : Int32) (by decide) dL_act_528 ?_
      refine cr_isub X dL_act_529 ?_
      refine cr_iald X ((cr_n2 E (cr_g9 E)).at rfl rfl) dL_act_530 ?_
      refine cr_iastS X (cr_n2 E (cr_g9 E)) (fun _ _ => rfl) dL_act_531 (fun S531_37 => ?_)
      refine cr_iinc X (x14 + (-1)) (fun v532_38 => [(14, .int v532_38), (0, .ref (E.2.1 8 0)), (6, .ref (E.2.1 9 2)), (11, .int x11), (13, .int x13)]) 4 rfl (congrArg (fun z => x14 + z) (show Int32.ofInt (-1) = (-1 : Int32) by decide)) (fun _ => rfl) (by decide) dL_act_532 (fun v532_38 => ?_)
      refine cr_goto X 511 dL_act_535 rfl ?_
      refine cr_sub (lv' := [(0, .ref (E.2.1 8 0)), (6, .ref (E.2.1 9 2)), (11, .int x11), (13, .int x13), (14, .int v532_38)]) [1, 2, 3, 4, 0] rfl ?_
      exact ih x11 x13 v532_38 S531_37
set_option maxHeartbeats 4000000 in
set_option maxRecDepth 100000 in
theorem b_L_act_485 {Γ : cr_C} {E : cr_E} (X : cr_X Γ E cL_act 15 RL wsL_act rm_L_act (some .boolean)) (x2 : Int32) (x11 : Int32) (S : cr_S) : cr_P Γ E 15 (cr_F Γ E cr_vBS) 0 0 S 485 ([(0, .ref (E.2.1 8 0)), (2, .int x2), (6, .ref (E.2.1 9 2)), (11, .int x11)]) ([]) (s_L_act_485 x2 x11 S) := by
  have hEK := X.2.2.2.2.2.2.1
  unfold s_L_act_485
  refine cr_iload_n X 1 rfl dL_act_485 ?_
  refine cr_aload X 2 rfl dL_act_486 ?_
  refine cr_iconst X (0 : Int32) (by decide) dL_act_488 ?_
  refine cr_ialdk X 0 (by decide) (by decide) ((cr_n2 E (cr_g9 E)).at rfl rfl) dL_act_489 ?_
  refine cr_iconst X (1 : Int32) (by decide) dL_act_490 ?_
  refine cr_iadd X dL_act_491 ?_
  refine cr_callS X (As := [.int x2, .int ((((S.1 9 2) 0) + (1 : Int32)))]) (rest := []) (c_L_at Γ.2.1 E hEK S x2 ((((S.1 9 2) 0) + (1 : Int32)))) 2 gL_act_L_at rfl rfl rfl (by decide +kernel) ⟨Nat.le_of_ble_eq_true rfl, Nat.le_of_ble_eq_true rfl⟩ (by decide) rfl rfl (Nat.le_of_ble_eq_true rfl) dL_act_492 (fun r492_32 => ?_)
  show cr_P Γ E 15 _ 0 0 S 495 ([(0, .ref (E.2.1 8 0)), (2, .int x2), (6, .ref (E.2.1 9 2)), (11, .int x11)]) ([.int r492_32]) _
  refine cr_istore X ([(13, .int r492_32), (0, .ref (E.2.1 8 0)), (2, .int x2), (6, .ref (E.2.1 9 2)), (11, .int x11)]) rfl (by decide) dL_act_495 ?_
  refine cr_aload X 3 rfl dL_act_497 ?_
  refine cr_iconst X (0 : Int32) (by decide) dL_act_499 ?_
  refine cr_dup2 X rfl rfl dL_act_500 ?_
  refine cr_ialdk X 0 (by decide) (by decide) ((cr_n2 E (cr_g9 E)).at rfl rfl) dL_act_501 ?_
  refine cr_iconst X (1 : Int32) (by decide) dL_act_502 ?_
  refine cr_iadd X dL_act_503 ?_
  refine cr_iastSk X 0 (cr_n2 E (cr_g9 E)) (fun _ _ => rfl) (by decide) (by decide) dL_act_504 (fun S504_33 => ?_)
  refine cr_aload X 3 rfl dL_act_505 ?_
  refine cr_iconst X (0 : Int32) (by decide) dL_act_507 ?_
  refine cr_ialdk X 0 (by decide) (by decide) ((cr_n2 E (cr_g9 E)).at rfl rfl) dL_act_508 ?_
  refine cr_istoreb X (fun v509_34 => [(14, .int v509_34), (13, .int r492_32), (0, .ref (E.2.1 8 0)), (2, .int x2), (6, .ref (E.2.1 9 2)), (11, .int x11)]) (fun _ => rfl) (by decide) dL_act_509 (fun v509_34 => ?_)
  refine cr_sub (lv' := [(0, .ref (E.2.1 8 0)), (6, .ref (E.2.1 9 2)), (11, .int x11), (13, .int r492_32), (14, .int v509_34)]) [2, 4, 5, 1, 0] rfl ?_
  exact b_L_act_511 X 1200 x11 r492_32 v509_34 S504_33
set_option maxHeartbeats 4000000 in
set_option maxRecDepth 100000 in
theorem b_L_act_227 {Γ : cr_C} {E : cr_E} (X : cr_X Γ E cL_act 15 RL wsL_act rm_L_act (some .boolean)) : ∀ (n : Nat) (x3 : Int32) (x11 : Int32) (x12 : Int32) (S : cr_S), cr_P Γ E 15 (cr_F Γ E cr_vBS) 0 0 S 227 ([(0, .ref (E.2.1 8 0)), (3, .int x3), (4, .ref (E.2.1 9 0)), (10, .ref (E.2.1 9 3)), (11, .int x11), (12, .int x12)]) ([]) (s_L_act_227 n x3 x11 x12 S) := by
  have hEK := X.2.2.2.2.2.2.1
  intro n
  induction n with
  | zero => intro x3 x11 x12 S; exact cr_none
  | succ n ih =>
    intro x3 x11 x12 S
    rw [s_L_act_227]
    refine cr_iload X 5 rfl dL_act_227 ?_
    refine cr_aload X 3 rfl dL_act_229 ?_
    refine cr_bipush X (6 : Int32) (by decide) dL_act_231 ?_
    refine cr_ialdk X 6 (by decide) (by decide) ((cr_n3 E (cr_g9 E)).at rfl rfl) dL_act_233 ?_
    refine cr_icmp_ge X 258 dL_act_234 rfl ?_ ?_
    · refine cr_aload X 3 rfl dL_act_258 ?_
      refine cr_bipush X (6 : Int32) (by decide) dL_act_260 ?_
      refine cr_ialdk X 6 (by decide) (by decide) ((cr_n3 E (cr_g9 E)).at rfl rfl) dL_act_262 ?_
      refine cr_bipush X (6 : Int32) (by decide) dL_act_263 ?_
      refine cr_icmp_ne X 270 dL_act_265 rfl ?_ ?_
      · refine cr_bipush X (7 : Int32) (by decide) dL_act_270 ?_
        refine cr_aload X 3 rfl dL_act_272 ?_
        refine cr_bipush X (6 : Int32) (by decide) dL_act_274 ?_
        refine cr_ialdk X 6 (by decide) (by decide) ((cr_n3 E (cr_g9 E)).at rfl rfl) dL_act_276 ?_
        refine cr_imul X dL_act_277 ?_
        refine cr_istoreb X (fun v278_39 => [(12, .int v278_39), (0, .ref (E.2.1 8 0)), (3, .int x3), (4, .ref (E.2.1 9 0)), (10, .ref (E.2.1 9 3)), (11, .int x11)]) (fun _ => rfl) (by decide) dL_act_278 (fun v278_39 => ?_)
        refine cr_aload X 3 rfl dL_act_280 ?_
        refine cr_iload X 0 rfl dL_act_282 ?_
        refine cr_iload X 5 rfl dL_act_284 ?_
        refine cr_iastS X (cr_n0 E (cr_g9 E)) (fun _ _ => rfl) dL_act_286 (fun S286_40 => ?_)
        refine cr_aload X 3 rfl dL_act_287 ?_
        refine cr_iload X 0 rfl dL_act_289 ?_
        refine cr_iconst X (1 : Int32) (by decide) dL_act_291 ?_
        refine cr_iadd X dL_act_292 ?_
        refine cr_bipush X (50 : Int32) (by decide) dL_act_293 ?_
        refine cr_iload_n X 2 rfl dL_act_295 ?_
        refine cr_bipush X (111 : Int32) (by decide) dL_act_296 ?_
        refine cr_callS X (As := [.int x3, .int ((111 : Int32))]) (rest := [.int ((50 : Int32)), .int ((v278_39 + (1 : Int32))), .ref (E.2.1 9 0)]) (c_L_at Γ.2.1 E hEK S286_40 x3 ((111 : Int32))) 2 gL_act_L_at rfl rfl rfl (by decide +kernel) ⟨Nat.le_of_ble_eq_true rfl, Nat.le_of_ble_eq_true rfl⟩ (by decide) rfl rfl (Nat.le_of_ble_eq_true rfl) dL_act_298 (fun r298_41 => ?_)
        show cr_P Γ E 15 _ 0 0 S286_40 301 ([(12, .int v278_39), (0, .ref (E.2.1 8 0)), (3, .int x3), (4, .ref (E.2.1 9 0)), (10, .ref (E.2.1 9 3)), (11, .int x11)]) ([.int r298_41, .int ((50 : Int32)), .int ((v278_39 + (1 : Int32))), .ref (E.2.1 9 0)]) _
        refine cr_iadd X dL_act_301 ?_
        refine cr_iastS X (cr_n0 E (cr_g9 E)) (fun _ _ => rfl) dL_act_302 (fun S302_42 => ?_)
        refine cr_aload X 3 rfl dL_act_303 ?_
        refine cr_iload X 0 rfl dL_act_305 ?_
        refine cr_iconst X (2 : Int32) (by decide) dL_act_307 ?_
        refine cr_iadd X dL_act_308 ?_
        refine cr_iconst X (1 : Int32) (by decide) dL_act_309 ?_
        refine cr_iload_n X 2 rfl dL_act_310 ?_
        refine cr_bipush X (7 : Int32) (by decide) dL_act_311 ?_
        refine cr_ishr X dL_act_313 ?_
        refine cr_bipush X (50 : Int32) (by decide) dL_act_314 ?_
        refine cr_callS X (As := [.int ((x3 >>> ((7 : Int32) &&& 31))), .int ((50 : Int32))]) (rest := [.int ((1 : Int32)), .int ((v278_39 + (2 : Int32))), .ref (E.2.1 9 0)]) (c_L_at Γ.2.1 E hEK S302_42 ((x3 >>> ((7 : Int32) &&& 31))) ((50 : Int32))) 2 gL_act_L_at rfl rfl rfl (by decide +kernel) ⟨Nat.le_of_ble_eq_true rfl, Nat.le_of_ble_eq_true rfl⟩ (by decide) rfl rfl (Nat.le_of_ble_eq_true rfl) dL_act_316 (fun r316_43 => ?_)
        show cr_P Γ E 15 _ 0 0 S302_42 319 ([(12, .int v278_39), (0, .ref (E.2.1 8 0)), (3, .int x3), (4, .ref (E.2.1 9 0)), (10, .ref (E.2.1 9 3)), (11, .int x11)]) ([.int r316_43, .int ((1 : Int32)), .int ((v278_39 + (2 : Int32))), .ref (E.2.1 9 0)]) _
        refine cr_iadd X dL_act_319 ?_
        refine cr_iastS X (cr_n0 E (cr_g9 E)) (fun _ _ => rfl) dL_act_320 (fun S320_44 => ?_)
        refine cr_aload X 4 rfl dL_act_321 ?_
        refine cr_bipush X (6 : Int32) (by decide) dL_act_323 ?_
        refine cr_dup2 X rfl rfl dL_act_325 ?_
        refine cr_ialdk X 6 (by decide) (by decide) ((cr_n3 E (cr_g9 E)).at rfl rfl) dL_act_326 ?_
        refine cr_iconst X (1 : Int32) (by decide) dL_act_327 ?_
        refine cr_iadd X dL_act_328 ?_
        refine cr_iastSk X 6 (cr_n3 E (cr_g9 E)) (fun _ _ => rfl) (by decide) (by decide) dL_act_329 (fun S329_45 => ?_)
        refine cr_aload_n X 1 rfl dL_act_330 ?_
        refine cr_iload X 5 rfl dL_act_331 ?_
        refine cr_aload X 3 rfl dL_act_333 ?_
        refine cr_iload X 0 rfl dL_act_335 ?_
        refine cr_iconst X (1 : Int32) (by decide) dL_act_337 ?_
        refine cr_iadd X dL_act_338 ?_
        refine cr_iald X ((cr_n0 E (cr_g9 E)).at rfl rfl) dL_act_339 ?_
        refine cr_aload X 3 rfl dL_act_340 ?_
        refine cr_iload X 0 rfl dL_act_342 ?_
        refine cr_iconst X (2 : Int32) (by decide) dL_act_344 ?_
        refine cr_iadd X dL_act_345 ?_
        refine cr_iald X ((cr_n0 E (cr_g9 E)).at rfl rfl) dL_act_346 ?_
        refine cr_callV X (As := [.int x11, .int (((S329_45.1 9 0) ((v278_39 + (1 : Int32))).toNatClampNeg)), .int (((S329_45.1 9 0) ((v278_39 + (2 : Int32))).toNatClampNeg))]) (rest := []) (c_X8_addTurbine Γ.2.1 E hEK S329_45 x11 (((S329_45.1 9 0) ((v278_39 + (1 : Int32))).toNatClampNeg)) (((S329_45.1 9 0) ((v278_39 + (2 : Int32))).toNatClampNeg))) ((cr_b0 E).at rfl rfl) rfl 3 gL_act_X8_addTurbine rfl rfl rfl (by decide +kernel) ⟨Nat.le_of_ble_eq_true rfl, Nat.le_of_ble_eq_true rfl⟩ (by decide) rfl rfl (Nat.le_of_ble_eq_true rfl) dL_act_347 (fun r347_46 => ?_)
        show cr_P Γ E 15 _ 0 0 r347_46.2 350 ([(12, .int v278_39), (0, .ref (E.2.1 8 0)), (3, .int x3), (4, .ref (E.2.1 9 0)), (10, .ref (E.2.1 9 3)), (11, .int x11)]) ([.int r347_46.1]) _
        refine cr_aload X 4 rfl dL_act_350 ?_
        refine cr_bipush X (6 : Int32) (by decide) dL_act_352 ?_
        refine cr_ialdk X 6 (by decide) (by decide) ((cr_n3 E (cr_g9 E)).at rfl rfl) dL_act_354 ?_
        refine cr_iconst X (1 : Int32) (by decide) dL_act_355 ?_
        refine cr_isub X dL_act_356 ?_
        refine cr_icmp_ne X 364 dL_act_357 rfl ?_ ?_
        · refine cr_iconst X (0 : Int32) (by decide) dL_act_364 ?_
          exact cr_zret X false rfl rfl rfl dL_act_365
        · refine cr_iconst X (1 : Int32) (by decide) dL_act_360 ?_
          refine cr_goto X 365 dL_act_361 rfl ?_
          exact cr_zret X true rfl rfl rfl dL_act_365
      · refine cr_iconst X (1 : Int32) (by decide) dL_act_268 ?_
        exact cr_zret X true rfl rfl rfl dL_act_269
    · refine cr_aload X 2 rfl dL_act_237 ?_
      refine cr_bipush X (7 : Int32) (by decide) dL_act_239 ?_
      refine cr_iload X 5 rfl dL_act_241 ?_
      refine cr_imul X dL_act_243 ?_
      refine cr_iald X ((cr_n0 E (cr_g9 E)).at rfl rfl) dL_act_244 ?_
      refine cr_iload X 4 rfl dL_act_245 ?_
      refine cr_icmp_ne X 252 dL_act_247 rfl ?_ ?_
      · refine cr_iinc X (x12 + 1) (fun v252_47 => [(12, .int v252_47), (0, .ref (E.2.1 8 0)), (3, .int x3), (4, .ref (E.2.1 9 0)), (10, .ref (E.2.1 9 3)), (11, .int x11)]) 5 rfl rfl (fun _ => rfl) (by decide) dL_act_252 (fun v252_47 => ?_)
        refine cr_goto X 227 dL_act_255 rfl ?_
        refine cr_sub (lv' := [(0, .ref (E.2.1 8 0)), (3, .int x3), (4, .ref (E.2.1 9 0)), (10, .ref (E.2.1 9 3)), (11, .int x11), (12, .int v252_47)]) [1, 2, 3, 4, 5, 0] rfl ?_
        exact ih x3 x11 v252_47 S
      · refine cr_iconst X (1 : Int32) (by decide) dL_act_250 ?_
        exact cr_zret X true rfl rfl rfl dL_act_251
set_option maxHeartbeats 4000000 in
set_option maxRecDepth 100000 in
theorem b_L_act_181 {Γ : cr_C} {E : cr_E} (X : cr_X Γ E cL_act 15 RL wsL_act rm_L_act (some .boolean)) (x11 : Int32) (x13 : Int32) (y0 : Int32) (y1 : Int32) (y2 : Int32) (y3 : Int32) (S : cr_S) : cr_P Γ E 15 (cr_F Γ E cr_vBS) 0 0 S 181 ([(0, .ref (E.2.1 8 0)), (8, .ref (E.2.1 11 1)), (11, .int x11), (13, .int x13)]) ([.int y0, .int y1, .int y2, .int y3, .ref (E.2.1 11 1)]) (s_L_act_181 x11 x13 y0 y1 y2 y3 S) := by
  have hEK := X.2.2.2.2.2.2.1
  unfold s_L_act_181
  refine cr_callS X (As := [.int y1, .int y0]) (rest := [.int y2, .int y3, .ref (E.2.1 11 1)]) (c_L_at Γ.2.1 E hEK S y1 y0) 2 gL_act_L_at rfl rfl rfl (by decide +kernel) ⟨Nat.le_of_ble_eq_true rfl, Nat.le_of_ble_eq_true rfl⟩ (by decide) rfl rfl (Nat.le_of_ble_eq_true rfl) dL_act_181 (fun r181_49 => ?_)
  show cr_P Γ E 15 _ 0 0 S 184 ([(0, .ref (E.2.1 8 0)), (8, .ref (E.2.1 11 1)), (11, .int x11), (13, .int x13)]) ([.int r181_49, .int y2, .int y3, .ref (E.2.1 11 1)]) _
  refine cr_iadd X dL_act_184 ?_
  refine cr_iastS X (cr_k1 E) (fun _ _ => rfl) dL_act_185 (fun S185_50 => ?_)
  refine cr_aload_n X 0 rfl dL_act_186 ?_
  refine cr_iload X 2 rfl dL_act_187 ?_
  refine cr_aload X 1 rfl dL_act_189 ?_
  refine cr_iload X 2 rfl dL_act_191 ?_
  refine cr_iald X ((cr_k1 E).at rfl rfl) dL_act_193 ?_
  refine cr_callV X (As := [.int x11, .int (((S185_50.1 11 1) (x11).toNatClampNeg))]) (rest := []) (c_X8_set Γ.2.1 E hEK S185_50 x11 (((S185_50.1 11 1) (x11).toNatClampNeg))) ((cr_b0 E).at rfl rfl) rfl 2 gL_act_X8_set rfl rfl rfl (by decide +kernel) ⟨Nat.le_of_ble_eq_true rfl, Nat.le_of_ble_eq_true rfl⟩ (by decide) rfl rfl (Nat.le_of_ble_eq_true rfl) dL_act_194 (fun r194_51 => ?_)
  show cr_P Γ E 15 _ 0 0 r194_51.2 197 ([(0, .ref (E.2.1 8 0)), (8, .ref (E.2.1 11 1)), (11, .int x11), (13, .int x13)]) ([.int r194_51.1]) _
  refine cr_iload X 3 rfl dL_act_197 ?_
  refine cr_icmp_ne X 206 dL_act_199 rfl ?_ ?_
  · refine cr_iconst X (0 : Int32) (by decide) dL_act_206 ?_
    exact cr_zret X false rfl rfl rfl dL_act_207
  · refine cr_iconst X (1 : Int32) (by decide) dL_act_202 ?_
    refine cr_goto X 207 dL_act_203 rfl ?_
    exact cr_zret X true rfl rfl rfl dL_act_207
set_option maxHeartbeats 4000000 in
set_option maxRecDepth 100000 in
theorem b_L_act_98 {Γ : cr_C} {E : cr_E} (X : cr_X Γ E cL_act 15 RL wsL_act rm_L_act (some .boolean)) (x3 : Int32) (x11 : Int32) (y0 : Int32) (S : cr_S) : cr_P Γ E 15 (cr_F Γ E cr_vBS) 0 0 S 98 ([(0, .ref (E.2.1 8 0)), (3, .int x3), (8, .ref (E.2.1 11 1)), (11, .int x11)]) ([.int y0]) (s_L_act_98 x3 x11 y0 S) := by
  have hEK := X.2.2.2.2.2.2.1
  unfold s_L_act_98
  refine cr_istore X ([(12, .int y0), (0, .ref (E.2.1 8 0)), (3, .int x3), (8, .ref (E.2.1 11 1)), (11, .int x11)]) rfl (by decide) dL_act_98 ?_
  refine cr_aload X 3 rfl dL_act_100 ?_
  refine cr_iload X 4 rfl dL_act_102 ?_
  refine cr_iald X ((cr_k1 E).at rfl rfl) dL_act_104 ?_
  refine cr_istoreb X (fun v105_48 => [(13, .int v105_48), (12, .int y0), (0, .ref (E.2.1 8 0)), (3, .int x3), (8, .ref (E.2.1 11 1)), (11, .int x11)]) (fun _ => rfl) (by decide) dL_act_105 (fun v105_48 => ?_)
  refine cr_aload X 4 rfl dL_act_107 ?_
  refine cr_iload X 5 rfl dL_act_109 ?_
  refine cr_iload X 1 rfl dL_act_111 ?_
  refine cr_iload_n X 3 rfl dL_act_113 ?_
  refine cr_iload X 5 rfl dL_act_114 ?_
  refine cr_if_ne X 124 dL_act_116 rfl ?_ ?_
  · refine cr_iload X 5 rfl dL_act_124 ?_
    refine cr_iconst X (1 : Int32) (by decide) dL_act_126 ?_
    refine cr_icmp_ne X 135 dL_act_127 rfl ?_ ?_
    · refine cr_iload X 5 rfl dL_act_135 ?_
      refine cr_iconst X (2 : Int32) (by decide) dL_act_137 ?_
      refine cr_icmp_ne X 146 dL_act_138 rfl ?_ ?_
      · refine cr_iload X 5 rfl dL_act_146 ?_
        refine cr_iconst X (3 : Int32) (by decide) dL_act_148 ?_
        refine cr_icmp_ne X 157 dL_act_149 rfl ?_ ?_
        · refine cr_iload X 5 rfl dL_act_157 ?_
          refine cr_iconst X (4 : Int32) (by decide) dL_act_159 ?_
          refine cr_icmp_ne X 168 dL_act_160 rfl ?_ ?_
          · refine cr_iload X 5 rfl dL_act_168 ?_
            refine cr_iconst X (5 : Int32) (by decide) dL_act_170 ?_
            refine cr_icmp_ne X 179 dL_act_171 rfl ?_ ?_
            · refine cr_bipush X (30 : Int32) (by decide) dL_act_179 ?_
              refine cr_sub (lv' := [(0, .ref (E.2.1 8 0)), (8, .ref (E.2.1 11 1)), (11, .int x11), (13, .int v105_48)]) [2, 4, 5, 0] rfl ?_
              exact b_L_act_181 X x11 v105_48 ((30 : Int32)) x3 y0 x11 S
            · refine cr_bipush X (30 : Int32) (by decide) dL_act_174 ?_
              refine cr_goto X 181 dL_act_176 rfl ?_
              refine cr_sub (lv' := [(0, .ref (E.2.1 8 0)), (8, .ref (E.2.1 11 1)), (11, .int x11), (13, .int v105_48)]) [2, 4, 5, 0] rfl ?_
              exact b_L_act_181 X x11 v105_48 ((30 : Int32)) x3 y0 x11 S
          · refine cr_bipush X (11 : Int32) (by decide) dL_act_163 ?_
            refine cr_goto X 181 dL_act_165 rfl ?_
            refine cr_sub (lv' := [(0, .ref (E.2.1 8 0)), (8, .ref (E.2.1 11 1)), (11, .int x11), (13, .int v105_48)]) [2, 4, 5, 0] rfl ?_
            exact b_L_act_181 X x11 v105_48 ((11 : Int32)) x3 y0 x11 S
        · refine cr_bipush X (40 : Int32) (by decide) dL_act_152 ?_
          refine cr_goto X 181 dL_act_154 rfl ?_
          refine cr_sub (lv' := [(0, .ref (E.2.1 8 0)), (8, .ref (E.2.1 11 1)), (11, .int x11), (13, .int v105_48)]) [2, 4, 5, 0] rfl ?_
          exact b_L_act_181 X x11 v105_48 ((40 : Int32)) x3 y0 x11 S
      · refine cr_bipush X (6 : Int32) (by decide) dL_act_141 ?_
        refine cr_goto X 181 dL_act_143 rfl ?_
        refine cr_sub (lv' := [(0, .ref (E.2.1 8 0)), (8, .ref (E.2.1 11 1)), (11, .int x11), (13, .int v105_48)]) [2, 4, 5, 0] rfl ?_
        exact b_L_act_181 X x11 v105_48 ((6 : Int32)) x3 y0 x11 S
    · refine cr_bipush X (20 : Int32) (by decide) dL_act_130 ?_
      refine cr_goto X 181 dL_act_132 rfl ?_
      refine cr_sub (lv' := [(0, .ref (E.2.1 8 0)), (8, .ref (E.2.1 11 1)), (11, .int x11), (13, .int v105_48)]) [2, 4, 5, 0] rfl ?_
      exact b_L_act_181 X x11 v105_48 ((20 : Int32)) x3 y0 x11 S
  · refine cr_bipush X (21 : Int32) (by decide) dL_act_119 ?_
    refine cr_goto X 181 dL_act_121 rfl ?_
    refine cr_sub (lv' := [(0, .ref (E.2.1 8 0)), (8, .ref (E.2.1 11 1)), (11, .int x11), (13, .int v105_48)]) [2, 4, 5, 0] rfl ?_
    exact b_L_act_181 X x11 v105_48 ((21 : Int32)) x3 y0 x11 S
set_option maxHeartbeats 4000000 in
set_option maxRecDepth 100000 in
theorem b_L_act_50 {Γ : cr_C} {E : cr_E} (X : cr_X Γ E cL_act 15 RL wsL_act rm_L_act (some .boolean)) (y0 : Int32) (y1 : Int32) (S : cr_S) : cr_P Γ E 15 (cr_F Γ E cr_vBS) 0 0 S 50 ([(9, .ref (E.2.1 11 2)), (10, .ref (E.2.1 9 3))]) ([.int y0, .int y1, .ref (E.2.1 8 0)]) (s_L_act_50 y0 y1 S) := by
  have hEK := X.2.2.2.2.2.2.1
  unfold s_L_act_50
  refine cr_aload X 0 rfl dL_act_50 ?_
  refine cr_aload X 1 rfl dL_act_52 ?_
  refine cr_callS X (As := [.ref (E.2.1 8 0), .int y1, .int y0, .ref (E.2.1 11 2), .ref (E.2.1 9 3)]) (rest := []) (c_L_bog Γ.2.1 E hEK S y1 y0) 5 gL_act_L_bog rfl rfl rfl (by decide +kernel) ⟨Nat.le_of_ble_eq_true rfl, Nat.le_of_ble_eq_true rfl⟩ (by decide) rfl rfl (Nat.le_of_ble_eq_true rfl) dL_act_54 (fun r54_52 => ?_)
  show cr_P Γ E 15 _ 0 0 r54_52.2 57 ([(9, .ref (E.2.1 11 2)), (10, .ref (E.2.1 9 3))]) ([.int (cr_b r54_52.1)]) _
  exact cr_zret X r54_52.1 rfl rfl rfl dL_act_57
set_option maxHeartbeats 4000000 in
set_option maxRecDepth 100000 in
theorem c_L_act (l : Launch) (E : cr_E) (hEK : cr_EK E) (S : cr_S) (p1 : Int32) (p2 : Int32) (p3 : Int32) : cr_M l E yL_act wsL_act rm_L_act [.ref (E.2.1 8 0), .int p1, .int p2, .int p3, .ref (E.2.1 9 0), .ref (E.2.1 9 1), .ref (E.2.1 9 2), .ref (E.2.1 11 0), .ref (E.2.1 11 1), .ref (E.2.1 11 2), .ref (E.2.1 9 3)] S cr_vBS (s_L_act p1 p2 p3 S) := by
  refine cr_enter (cc := cL_act) (nL := 15) (rt := (some .boolean)) hEK (by decide) rfl (Nat.le_of_ble_eq_true rfl) (fun Γ hΓ X => ?_)
  subst hΓ
  have X : cr_X Γ E cL_act 15 RL wsL_act rm_L_act (some .boolean) := X
  unfold s_L_act
  show cr_P Γ E 15 _ 0 0 S 0 ([(0, .ref (E.2.1 8 0)), (1, .int p1), (2, .int p2), (3, .int p3), (4, .ref (E.2.1 9 0)), (5, .ref (E.2.1 9 1)), (6, .ref (E.2.1 9 2)), (7, .ref (E.2.1 11 0)), (8, .ref (E.2.1 11 1)), (9, .ref (E.2.1 11 2)), (10, .ref (E.2.1 9 3))]) [] _
  refine cr_iload_n X 1 rfl dL_act_0 ?_
  refine cr_iconst X (2 : Int32) (by decide) dL_act_1 ?_
  refine cr_icmp_ge X 14 dL_act_2 rfl ?_ ?_
  · refine cr_iload_n X 1 rfl dL_act_14 ?_
    refine cr_iconst X (2 : Int32) (by decide) dL_act_15 ?_
    refine cr_icmp_ne X 58 dL_act_16 rfl ?_ ?_
    · refine cr_iload_n X 1 rfl dL_act_58 ?_
      refine cr_iconst X (3 : Int32) (by decide) dL_act_59 ?_
      refine cr_icmp_ne X 208 dL_act_60 rfl ?_ ?_
      · refine cr_iload_n X 1 rfl dL_act_208 ?_
        refine cr_bipush X (6 : Int32) (by decide) dL_act_209 ?_
        refine cr_icmp_ge X 366 dL_act_211 rfl ?_ ?_
        · refine cr_aload X 10 rfl dL_act_366 ?_
          refine cr_bipush X (6 : Int32) (by decide) dL_act_368 ?_
          refine cr_ialdk X 6 (by decide) (by decide) ((cr_n3 E (cr_g9 E)).at rfl rfl) dL_act_370 ?_
          refine cr_if_ne X 376 dL_act_371 rfl ?_ ?_
          · refine cr_iload_n X 3 rfl dL_act_376 ?_
            refine cr_aload X 10 rfl dL_act_377 ?_
            refine cr_bipush X (6 : Int32) (by decide) dL_act_379 ?_
            refine cr_ialdk X 6 (by decide) (by decide) ((cr_n3 E (cr_g9 E)).at rfl rfl) dL_act_381 ?_
            refine cr_callS X (As := [.int p3, .int (((S.1 9 3) 6))]) (rest := []) (c_L_at Γ.2.1 E hEK S p3 (((S.1 9 3) 6))) 2 gL_act_L_at rfl rfl rfl (by decide +kernel) ⟨Nat.le_of_ble_eq_true rfl, Nat.le_of_ble_eq_true rfl⟩ (by decide) rfl rfl (Nat.le_of_ble_eq_true rfl) dL_act_382 (fun r382_1 => ?_)
            show cr_P Γ E 15 _ 0 0 S 385 ([(0, .ref (E.2.1 8 0)), (1, .int p1), (2, .int p2), (3, .int p3), (4, .ref (E.2.1 9 0)), (5, .ref (E.2.1 9 1)), (6, .ref (E.2.1 9 2)), (7, .ref (E.2.1 11 0)), (8, .ref (E.2.1 11 1)), (9, .ref (E.2.1 11 2)), (10, .ref (E.2.1 9 3))]) ([.int r382_1]) _
            refine cr_istore X ([(11, .int r382_1), (0, .ref (E.2.1 8 0)), (1, .int p1), (2, .int p2), (3, .int p3), (4, .ref (E.2.1 9 0)), (5, .ref (E.2.1 9 1)), (6, .ref (E.2.1 9 2)), (7, .ref (E.2.1 11 0)), (8, .ref (E.2.1 11 1)), (9, .ref (E.2.1 11 2)), (10, .ref (E.2.1 9 3))]) rfl (by decide) dL_act_385 ?_
            refine cr_iload_n X 2 rfl dL_act_387 ?_
            refine cr_bipush X (8 : Int32) (by decide) dL_act_388 ?_
            refine cr_icmp_ge X 458 dL_act_390 rfl ?_ ?_
            · refine cr_iload_n X 2 rfl dL_act_458 ?_
              refine cr_bipush X (11 : Int32) (by decide) dL_act_459 ?_
              refine cr_icmp_ge X 568 dL_act_461 rfl ?_ ?_
              · refine cr_iload_n X 2 rfl dL_act_568 ?_
                refine cr_bipush X (11 : Int32) (by decide) dL_act_569 ?_
                refine cr_icmp_ne X 614 dL_act_571 rfl ?_ ?_
                · refine cr_iload_n X 2 rfl dL_act_614 ?_
                  refine cr_bipush X (14 : Int32) (by decide) dL_act_615 ?_
                  refine cr_icmp_ge X 698 dL_act_617 rfl ?_ ?_
                  · refine cr_iconst X (1 : Int32) (by decide) dL_act_698 ?_
                    refine cr_iload_n X 3 rfl dL_act_699 ?_
                    refine cr_iload_n X 2 rfl dL_act_700 ?_
                    refine cr_bipush X (14 : Int32) (by decide) dL_act_701 ?_
                    refine cr_icmp_ne X 711 dL_act_703 rfl ?_ ?_
                    · refine cr_bipush X (6 : Int32) (by decide) dL_act_711 ?_
                      refine cr_sub (lv' := [(0, .ref (E.2.1 8 0)), (4, .ref (E.2.1 9 0)), (5, .ref (E.2.1 9 1)), (6, .ref (E.2.1 9 2)), (7, .ref (E.2.1 11 0)), (8, .ref (E.2.1 11 1)), (9, .ref (E.2.1 11 2)), (10, .ref (E.2.1 9 3))]) [1, 5, 6, 7, 8, 9, 10, 11] rfl ?_
                      exact b_L_act_713 X ((6 : Int32)) p2 ((1 : Int32)) S
                    · refine cr_bipush X (40 : Int32) (by decide) dL_act_706 ?_
                      refine cr_goto X 713 dL_act_708 rfl ?_
                      refine cr_sub (lv' := [(0, .ref (E.2.1 8 0)), (4, .ref (E.2.1 9 0)), (5, .ref (E.2.1 9 1)), (6, .ref (E.2.1 9 2)), (7, .ref (E.2.1 11 0)), (8, .ref (E.2.1 11 1)), (9, .ref (E.2.1 11 2)), (10, .ref (E.2.1 9 3))]) [1, 5, 6, 7, 8, 9, 10, 11] rfl ?_
                      exact b_L_act_713 X ((40 : Int32)) p2 ((1 : Int32)) S
                  · refine cr_aload X 11 rfl dL_act_620 ?_
                    refine cr_bipush X (7 : Int32) (by decide) dL_act_622 ?_
                    refine cr_ialdk X 7 (by decide) (by decide) ((cr_n3 E (cr_g9 E)).at rfl rfl) dL_act_624 ?_
                    refine cr_bipush X (10 : Int32) (by decide) dL_act_625 ?_
                    refine cr_icmp_ne X 632 dL_act_627 rfl ?_ ?_
                    · refine cr_aload X 6 rfl dL_act_632 ?_
                      refine cr_iconst X (2 : Int32) (by decide) dL_act_634 ?_
                      refine cr_aload X 11 rfl dL_act_635 ?_
                      refine cr_bipush X (7 : Int32) (by decide) dL_act_637 ?_
                      refine cr_ialdk X 7 (by decide) (by decide) ((cr_n3 E (cr_g9 E)).at rfl rfl) dL_act_639 ?_
                      refine cr_imul X dL_act_640 ?_
                      refine cr_iload X 0 rfl dL_act_641 ?_
                      refine cr_iastS X (cr_n1 E (cr_g9 E)) (fun _ _ => rfl) dL_act_643 (fun S643_2 => ?_)
                      refine cr_aload X 6 rfl dL_act_644 ?_
                      refine cr_iconst X (2 : Int32) (by decide) dL_act_646 ?_
                      refine cr_aload X 11 rfl dL_act_647 ?_
                      refine cr_bipush X (7 : Int32) (by decide) dL_act_649 ?_
                      refine cr_ialdk X 7 (by decide) (by decide) ((cr_n3 E (cr_g9 E)).at rfl rfl) dL_act_651 ?_
                      refine cr_imul X dL_act_652 ?_
                      refine cr_iconst X (1 : Int32) (by decide) dL_act_653 ?_
                      refine cr_iadd X dL_act_654 ?_
                      refine cr_aload X 5 rfl dL_act_655 ?_
                      refine cr_bipush X (7 : Int32) (by decide) dL_act_657 ?_
                      refine cr_iload X 0 rfl dL_act_659 ?_
                      refine cr_imul X dL_act_661 ?_
                      refine cr_iconst X (1 : Int32) (by decide) dL_act_662 ?_
                      refine cr_iadd X dL_act_663 ?_
                      refine cr_iald X ((cr_n0 E (cr_g9 E)).at rfl rfl) dL_act_664 ?_
                      refine cr_bipush X (10 : Int32) (by decide) dL_act_665 ?_
                      refine cr_idivk X (by decide) dL_act_667 ?_
                      refine cr_iastS X (cr_n1 E (cr_g9 E)) (fun _ _ => rfl) dL_act_668 (fun S668_3 => ?_)
                      refine cr_aload X 11 rfl dL_act_669 ?_
                      refine cr_bipush X (7 : Int32) (by decide) dL_act_671 ?_
                      refine cr_dup2 X rfl rfl dL_act_673 ?_
                      refine cr_ialdk X 7 (by decide) (by decide) ((cr_n3 E (cr_g9 E)).at rfl rfl) dL_act_674 ?_
                      refine cr_iconst X (1 : Int32) (by decide) dL_act_675 ?_
                      refine cr_iadd X dL_act_676 ?_
                      refine cr_iastSk X 7 (cr_n3 E (cr_g9 E)) (fun _ _ => rfl) (by decide) (by decide) dL_act_677 (fun S677_4 => ?_)
                      refine cr_aload_n X 1 rfl dL_act_678 ?_
                      refine cr_iload X 0 rfl dL_act_679 ?_
                      refine cr_callV X (As := [.int r382_1]) (rest := []) (c_X8_orderBlade Γ.2.1 E hEK S677_4 r382_1) ((cr_b0 E).at rfl rfl) rfl 1 gL_act_X8_orderBlade rfl rfl rfl (by decide +kernel) ⟨Nat.le_of_ble_eq_true rfl, Nat.le_of_ble_eq_true rfl⟩ (by decide) rfl rfl (Nat.le_of_ble_eq_true rfl) dL_act_681 (fun r681_5 => ?_)
                      show cr_P Γ E 15 _ 0 0 r681_5.2 684 ([(11, .int r382_1), (0, .ref (E.2.1 8 0)), (1, .int p1), (2, .int p2), (3, .int p3), (4, .ref (E.2.1 9 0)), (5, .ref (E.2.1 9 1)), (6, .ref (E.2.1 9 2)), (7, .ref (E.2.1 11 0)), (8, .ref (E.2.1 11 1)), (9, .ref (E.2.1 11 2)), (10, .ref (E.2.1 9 3))]) ([.int r681_5.1]) _
                      refine cr_aload X 11 rfl dL_act_684 ?_
                      refine cr_bipush X (7 : Int32) (by decide) dL_act_686 ?_
                      refine cr_ialdk X 7 (by decide) (by decide) ((cr_n3 E (cr_g9 E)).at rfl rfl) dL_act_688 ?_
                      refine cr_icmp_ne X 696 dL_act_689 rfl ?_ ?_
                      · refine cr_iconst X (0 : Int32) (by decide) dL_act_696 ?_
                        exact cr_zret X false rfl rfl rfl dL_act_697
                      · refine cr_iconst X (1 : Int32) (by decide) dL_act_692 ?_
                        refine cr_goto X 697 dL_act_693 rfl ?_
                        exact cr_zret X true rfl rfl rfl dL_act_697
                    · refine cr_iconst X (1 : Int32) (by decide) dL_act_630 ?_
                      exact cr_zret X true rfl rfl rfl dL_act_631
                · refine cr_iload X 0 rfl dL_act_574 ?_
                  refine cr_aload X 7 rfl dL_act_576 ?_
                  refine cr_callS X (As := [.int r382_1, .ref (E.2.1 9 2)]) (rest := []) (c_L_spot_S Γ.2.1 E hEK S (cr_g9 E) r382_1) 2 gL_act_L_spot rfl rfl rfl (by decide +kernel) ⟨Nat.le_of_ble_eq_true rfl, Nat.le_of_ble_eq_true rfl⟩ (by decide) rfl rfl (Nat.le_of_ble_eq_true rfl) dL_act_578 (fun r578_6 => ?_)
                  show cr_P Γ E 15 _ 0 0 S 581 ([(11, .int r382_1), (0, .ref (E.2.1 8 0)), (1, .int p1), (2, .int p2), (3, .int p3), (4, .ref (E.2.1 9 0)), (5, .ref (E.2.1 9 1)), (6, .ref (E.2.1 9 2)), (7, .ref (E.2.1 11 0)), (8, .ref (E.2.1 11 1)), (9, .ref (E.2.1 11 2)), (10, .ref (E.2.1 9 3))]) ([.int r578_6]) _
                  refine cr_istore X ([(12, .int r578_6), (11, .int r382_1), (0, .ref (E.2.1 8 0)), (1, .int p1), (2, .int p2), (3, .int p3), (4, .ref (E.2.1 9 0)), (5, .ref (E.2.1 9 1)), (6, .ref (E.2.1 9 2)), (7, .ref (E.2.1 11 0)), (8, .ref (E.2.1 11 1)), (9, .ref (E.2.1 11 2)), (10, .ref (E.2.1 9 3))]) rfl (by decide) dL_act_581 ?_
                  refine cr_iload X 0 rfl dL_act_583 ?_
                  refine cr_if_ge X 590 dL_act_585 rfl ?_ ?_
                  · refine cr_iload X 0 rfl dL_act_590 ?_
                    refine cr_aload X 8 rfl dL_act_592 ?_
                    refine cr_callS X (As := [.int r578_6, .ref (E.2.1 9 2)]) (rest := []) (c_L_off_S Γ.2.1 E hEK S (cr_g9 E) r578_6) 2 gL_act_L_off rfl rfl rfl (by decide +kernel) ⟨Nat.le_of_ble_eq_true rfl, Nat.le_of_ble_eq_true rfl⟩ (by decide) rfl rfl (Nat.le_of_ble_eq_true rfl) dL_act_594 (fun r594_7 => ?_)
                    show cr_P Γ E 15 _ 0 0 (cr_us S 9 r594_7) 597 ([(12, .int r578_6), (11, .int r382_1), (0, .ref (E.2.1 8 0)), (1, .int p1), (2, .int p2), (3, .int p3), (4, .ref (E.2.1 9 0)), (5, .ref (E.2.1 9 1)), (6, .ref (E.2.1 9 2)), (7, .ref (E.2.1 11 0)), (8, .ref (E.2.1 11 1)), (9, .ref (E.2.1 11 2)), (10, .ref (E.2.1 9 3))]) ([]) _
                    refine cr_bds (fun S594_8 => ?_)
                    refine cr_aload_n X 2 rfl dL_act_597 ?_
                    refine cr_iload X 1 rfl dL_act_598 ?_
                    refine cr_callV X (As := [.int r382_1]) (rest := []) (c_X8_unplan Γ.2.1 E hEK S594_8 r382_1) ((cr_b0 E).at rfl rfl) rfl 1 gL_act_X8_unplan rfl rfl rfl (by decide +kernel) ⟨Nat.le_of_ble_eq_true rfl, Nat.le_of_ble_eq_true rfl⟩ (by decide) rfl rfl (Nat.le_of_ble_eq_true rfl) dL_act_600 (fun r600_9 => ?_)
                    show cr_P Γ E 15 _ 0 0 r600_9.2 603 ([(12, .int r578_6), (11, .int r382_1), (0, .ref (E.2.1 8 0)), (1, .int p1), (2, .int p2), (3, .int p3), (4, .ref (E.2.1 9 0)), (5, .ref (E.2.1 9 1)), (6, .ref (E.2.1 9 2)), (7, .ref (E.2.1 11 0)), (8, .ref (E.2.1 11 1)), (9, .ref (E.2.1 11 2)), (10, .ref (E.2.1 9 3))]) ([.int r600_9.1]) _
                    refine cr_iload X 0 rfl dL_act_603 ?_
                    refine cr_icmp_ne X 612 dL_act_605 rfl ?_ ?_
                    · refine cr_iconst X (0 : Int32) (by decide) dL_act_612 ?_
                      exact cr_zret X false rfl rfl rfl dL_act_613
                    · refine cr_iconst X (1 : Int32) (by decide) dL_act_608 ?_
                      refine cr_goto X 613 dL_act_609 rfl ?_
                      exact cr_zret X true rfl rfl rfl dL_act_613
                  · refine cr_iconst X (1 : Int32) (by decide) dL_act_588 ?_
                    exact cr_zret X true rfl rfl rfl dL_act_589
              · refine cr_iload X 0 rfl dL_act_464 ?_
                refine cr_aload X 7 rfl dL_act_466 ?_
                refine cr_callS X (As := [.int r382_1, .ref (E.2.1 9 2)]) (rest := []) (c_L_spot_S Γ.2.1 E hEK S (cr_g9 E) r382_1) 2 gL_act_L_spot rfl rfl rfl (by decide +kernel) ⟨Nat.le_of_ble_eq_true rfl, Nat.le_of_ble_eq_true rfl⟩ (by decide) rfl rfl (Nat.le_of_ble_eq_true rfl) dL_act_468 (fun r468_10 => ?_)
                show cr_P Γ E 15 _ 0 0 S 471 ([(11, .int r382_1), (0, .ref (E.2.1 8 0)), (1, .int p1), (2, .int p2), (3, .int p3), (4, .ref (E.2.1 9 0)), (5, .ref (E.2.1 9 1)), (6, .ref (E.2.1 9 2)), (7, .ref (E.2.1 11 0)), (8, .ref (E.2.1 11 1)), (9, .ref (E.2.1 11 2)), (10, .ref (E.2.1 9 3))]) ([.int r468_10]) _
                refine cr_istore X ([(12, .int r468_10), (11, .int r382_1), (0, .ref (E.2.1 8 0)), (1, .int p1), (2, .int p2), (3, .int p3), (4, .ref (E.2.1 9 0)), (5, .ref (E.2.1 9 1)), (6, .ref (E.2.1 9 2)), (7, .ref (E.2.1 11 0)), (8, .ref (E.2.1 11 1)), (9, .ref (E.2.1 11 2)), (10, .ref (E.2.1 9 3))]) rfl (by decide) dL_act_471 ?_
                refine cr_iload X 0 rfl dL_act_473 ?_
                refine cr_if_lt X 485 dL_act_475 rfl ?_ ?_
                · refine cr_sub (lv' := [(0, .ref (E.2.1 8 0)), (2, .int p2), (6, .ref (E.2.1 9 2)), (11, .int r382_1)]) [2, 4, 8, 1] rfl ?_
                  exact b_L_act_485 X p2 r382_1 S
                · refine cr_iload X 0 rfl dL_act_478 ?_
                  refine cr_aload X 8 rfl dL_act_480 ?_
                  refine cr_callS X (As := [.int r468_10, .ref (E.2.1 9 2)]) (rest := []) (c_L_off_S Γ.2.1 E hEK S (cr_g9 E) r468_10) 2 gL_act_L_off rfl rfl rfl (by decide +kernel) ⟨Nat.le_of_ble_eq_true rfl, Nat.le_of_ble_eq_true rfl⟩ (by decide) rfl rfl (Nat.le_of_ble_eq_true rfl) dL_act_482 (fun r482_11 => ?_)
                  show cr_P Γ E 15 _ 0 0 (cr_us S 9 r482_11) 485 ([(12, .int r468_10), (11, .int r382_1), (0, .ref (E.2.1 8 0)), (1, .int p1), (2, .int p2), (3, .int p3), (4, .ref (E.2.1 9 0)), (5, .ref (E.2.1 9 1)), (6, .ref (E.2.1 9 2)), (7, .ref (E.2.1 11 0)), (8, .ref (E.2.1 11 1)), (9, .ref (E.2.1 11 2)), (10, .ref (E.2.1 9 3))]) ([]) _
                  refine cr_bds (fun S482_12 => ?_)
                  refine cr_sub (lv' := [(0, .ref (E.2.1 8 0)), (2, .int p2), (6, .ref (E.2.1 9 2)), (11, .int r382_1)]) [2, 4, 8, 1] rfl ?_
                  exact b_L_act_485 X p2 r382_1 S482_12
            · refine cr_aload X 5 rfl dL_act_393 ?_
              refine cr_bipush X (7 : Int32) (by decide) dL_act_395 ?_
              refine cr_iload X 0 rfl dL_act_397 ?_
              refine cr_imul X dL_act_399 ?_
              refine cr_iconst X (3 : Int32) (by decide) dL_act_400 ?_
              refine cr_iadd X dL_act_401 ?_
              refine cr_iald X ((cr_n0 E (cr_g9 E)).at rfl rfl) dL_act_402 ?_
              refine cr_istoreb X (fun v403_13 => [(12, .int v403_13), (11, .int r382_1), (0, .ref (E.2.1 8 0)), (1, .int p1), (2, .int p2), (3, .int p3), (4, .ref (E.2.1 9 0)), (5, .ref (E.2.1 9 1)), (6, .ref (E.2.1 9 2)), (7, .ref (E.2.1 11 0)), (8, .ref (E.2.1 11 1)), (9, .ref (E.2.1 11 2)), (10, .ref (E.2.1 9 3))]) (fun _ => rfl) (by decide) dL_act_403 (fun v403_13 => ?_)
              refine cr_aload X 6 rfl dL_act_405 ?_
              refine cr_bipush X (7 : Int32) (by decide) dL_act_407 ?_
              refine cr_iload X 1 rfl dL_act_409 ?_
              refine cr_imul X dL_act_411 ?_
              refine cr_iconst X (3 : Int32) (by decide) dL_act_412 ?_
              refine cr_iadd X dL_act_413 ?_
              refine cr_iload_n X 4 rfl dL_act_414 ?_
              refine cr_iconst X (5 : Int32) (by decide) dL_act_415 ?_
              refine cr_callS X (As := [.int p2, .int ((5 : Int32))]) (rest := [.int ((((7 : Int32) * r382_1) + (3 : Int32))), .ref (E.2.1 9 0)]) (c_L_at Γ.2.1 E hEK S p2 ((5 : Int32))) 2 gL_act_L_at rfl rfl rfl (by decide +kernel) ⟨Nat.le_of_ble_eq_true rfl, Nat.le_of_ble_eq_true rfl⟩ (by decide) rfl rfl (Nat.le_of_ble_eq_true rfl) dL_act_416 (fun r416_14 => ?_)
              show cr_P Γ E 15 _ 0 0 S 419 ([(12, .int v403_13), (11, .int r382_1), (0, .ref (E.2.1 8 0)), (1, .int p1), (2, .int p2), (3, .int p3), (4, .ref (E.2.1 9 0)), (5, .ref (E.2.1 9 1)), (6, .ref (E.2.1 9 2)), (7, .ref (E.2.1 11 0)), (8, .ref (E.2.1 11 1)), (9, .ref (E.2.1 11 2)), (10, .ref (E.2.1 9 3))]) ([.int r416_14, .int ((((7 : Int32) * r382_1) + (3 : Int32))), .ref (E.2.1 9 0)]) _
              refine cr_iastS X (cr_n0 E (cr_g9 E)) (fun _ _ => rfl) dL_act_419 (fun S419_15 => ?_)
              refine cr_aload X 6 rfl dL_act_420 ?_
              refine cr_bipush X (7 : Int32) (by decide) dL_act_422 ?_
              refine cr_iload X 1 rfl dL_act_424 ?_
              refine cr_imul X dL_act_426 ?_
              refine cr_iconst X (4 : Int32) (by decide) dL_act_427 ?_
              refine cr_iadd X dL_act_428 ?_
              refine cr_iconst X (0 : Int32) (by decide) dL_act_429 ?_
              refine cr_iastS X (cr_n0 E (cr_g9 E)) (fun _ _ => rfl) dL_act_430 (fun S430_16 => ?_)
              refine cr_aload_n X 2 rfl dL_act_431 ?_
              refine cr_iload X 1 rfl dL_act_432 ?_
              refine cr_aload X 6 rfl dL_act_434 ?_
              refine cr_bipush X (7 : Int32) (by decide) dL_act_436 ?_
              refine cr_iload X 1 rfl dL_act_438 ?_
              refine cr_imul X dL_act_440 ?_
              refine cr_iconst X (3 : Int32) (by decide) dL_act_441 ?_
              refine cr_iadd X dL_act_442 ?_
              refine cr_iald X ((cr_n0 E (cr_g9 E)).at rfl rfl) dL_act_443 ?_
              refine cr_callV X (As := [.int r382_1, .int (((S430_16.1 9 0) ((((7 : Int32) * r382_1) + (3 : Int32))).toNatClampNeg))]) (rest := []) (c_X8_setFault Γ.2.1 E hEK S430_16 r382_1 (((S430_16.1 9 0) ((((7 : Int32) * r382_1) + (3 : Int32))).toNatClampNeg))) ((cr_b0 E).at rfl rfl) rfl 2 gL_act_X8_setFault rfl rfl rfl (by decide +kernel) ⟨Nat.le_of_ble_eq_true rfl, Nat.le_of_ble_eq_true rfl⟩ (by decide) rfl rfl (Nat.le_of_ble_eq_true rfl) dL_act_444 (fun r444_17 => ?_)
              show cr_P Γ E 15 _ 0 0 r444_17.2 447 ([(12, .int v403_13), (11, .int r382_1), (0, .ref (E.2.1 8 0)), (1, .int p1), (2, .int p2), (3, .int p3), (4, .ref (E.2.1 9 0)), (5, .ref (E.2.1 9 1)), (6, .ref (E.2.1 9 2)), (7, .ref (E.2.1 11 0)), (8, .ref (E.2.1 11 1)), (9, .ref (E.2.1 11 2)), (10, .ref (E.2.1 9 3))]) ([.int r444_17.1]) _
              refine cr_iload X 0 rfl dL_act_447 ?_
              refine cr_icmp_ne X 456 dL_act_449 rfl ?_ ?_
              · refine cr_iconst X (0 : Int32) (by decide) dL_act_456 ?_
                exact cr_zret X false rfl rfl rfl dL_act_457
              · refine cr_iconst X (1 : Int32) (by decide) dL_act_452 ?_
                refine cr_goto X 457 dL_act_453 rfl ?_
                exact cr_zret X true rfl rfl rfl dL_act_457
          · refine cr_iconst X (1 : Int32) (by decide) dL_act_374 ?_
            exact cr_zret X true rfl rfl rfl dL_act_375
        · refine cr_iconst X (1 : Int32) (by decide) dL_act_214 ?_
          refine cr_iload_n X 2 rfl dL_act_215 ?_
          refine cr_bipush X (60 : Int32) (by decide) dL_act_216 ?_
          refine cr_callS X (As := [.int p2, .int ((60 : Int32))]) (rest := [.int ((1 : Int32))]) (c_L_at Γ.2.1 E hEK S p2 ((60 : Int32))) 2 gL_act_L_at rfl rfl rfl (by decide +kernel) ⟨Nat.le_of_ble_eq_true rfl, Nat.le_of_ble_eq_true rfl⟩ (by decide) rfl rfl (Nat.le_of_ble_eq_true rfl) dL_act_218 (fun r218_18 => ?_)
          show cr_P Γ E 15 _ 0 0 S 221 ([(0, .ref (E.2.1 8 0)), (1, .int p1), (2, .int p2), (3, .int p3), (4, .ref (E.2.1 9 0)), (5, .ref (E.2.1 9 1)), (6, .ref (E.2.1 9 2)), (7, .ref (E.2.1 11 0)), (8, .ref (E.2.1 11 1)), (9, .ref (E.2.1 11 2)), (10, .ref (E.2.1 9 3))]) ([.int r218_18, .int ((1 : Int32))]) _
          refine cr_iadd X dL_act_221 ?_
          refine cr_istoreb X (fun v222_19 => [(11, .int v222_19), (0, .ref (E.2.1 8 0)), (1, .int p1), (2, .int p2), (3, .int p3), (4, .ref (E.2.1 9 0)), (5, .ref (E.2.1 9 1)), (6, .ref (E.2.1 9 2)), (7, .ref (E.2.1 11 0)), (8, .ref (E.2.1 11 1)), (9, .ref (E.2.1 11 2)), (10, .ref (E.2.1 9 3))]) (fun _ => rfl) (by decide) dL_act_222 (fun v222_19 => ?_)
          refine cr_iconst X (0 : Int32) (by decide) dL_act_224 ?_
          refine cr_istore X ([(12, .int ((0 : Int32))), (11, .int v222_19), (0, .ref (E.2.1 8 0)), (1, .int p1), (2, .int p2), (3, .int p3), (4, .ref (E.2.1 9 0)), (5, .ref (E.2.1 9 1)), (6, .ref (E.2.1 9 2)), (7, .ref (E.2.1 11 0)), (8, .ref (E.2.1 11 1)), (9, .ref (E.2.1 11 2)), (10, .ref (E.2.1 9 3))]) rfl (by decide) dL_act_225 ?_
          refine cr_sub (lv' := [(0, .ref (E.2.1 8 0)), (3, .int p3), (4, .ref (E.2.1 9 0)), (10, .ref (E.2.1 9 3)), (11, .int v222_19), (12, .int ((0 : Int32)))]) [2, 5, 6, 12, 1, 0] rfl ?_
          exact b_L_act_227 X 1200 p3 v222_19 ((0 : Int32)) S
      · refine cr_iload_n X 2 rfl dL_act_63 ?_
        refine cr_bipush X (7 : Int32) (by decide) dL_act_64 ?_
        refine cr_callS X (As := [.int p2, .int ((7 : Int32))]) (rest := []) (c_L_at Γ.2.1 E hEK S p2 ((7 : Int32))) 2 gL_act_L_at rfl rfl rfl (by decide +kernel) ⟨Nat.le_of_ble_eq_true rfl, Nat.le_of_ble_eq_true rfl⟩ (by decide) rfl rfl (Nat.le_of_ble_eq_true rfl) dL_act_66 (fun r66_20 => ?_)
        show cr_P Γ E 15 _ 0 0 S 69 ([(0, .ref (E.2.1 8 0)), (1, .int p1), (2, .int p2), (3, .int p3), (4, .ref (E.2.1 9 0)), (5, .ref (E.2.1 9 1)), (6, .ref (E.2.1 9 2)), (7, .ref (E.2.1 11 0)), (8, .ref (E.2.1 11 1)), (9, .ref (E.2.1 11 2)), (10, .ref (E.2.1 9 3))]) ([.int r66_20]) _
        refine cr_istore X ([(11, .int r66_20), (0, .ref (E.2.1 8 0)), (1, .int p1), (2, .int p2), (3, .int p3), (4, .ref (E.2.1 9 0)), (5, .ref (E.2.1 9 1)), (6, .ref (E.2.1 9 2)), (7, .ref (E.2.1 11 0)), (8, .ref (E.2.1 11 1)), (9, .ref (E.2.1 11 2)), (10, .ref (E.2.1 9 3))]) rfl (by decide) dL_act_69 ?_
        refine cr_iload X 0 rfl dL_act_71 ?_
        refine cr_if_ne X 80 dL_act_73 rfl ?_ ?_
        · refine cr_iload X 0 rfl dL_act_80 ?_
          refine cr_iconst X (4 : Int32) (by decide) dL_act_82 ?_
          refine cr_icmp_eq X 93 dL_act_83 rfl ?_ ?_
          · refine cr_iconst X (0 : Int32) (by decide) dL_act_93 ?_
            refine cr_goto X 98 dL_act_94 rfl ?_
            refine cr_sub (lv' := [(0, .ref (E.2.1 8 0)), (3, .int p3), (8, .ref (E.2.1 11 1)), (11, .int r66_20)]) [1, 4, 9, 0] rfl ?_
            exact b_L_act_98 X p3 r66_20 ((0 : Int32)) S
          · refine cr_iload X 0 rfl dL_act_86 ?_
            refine cr_bipush X (6 : Int32) (by decide) dL_act_88 ?_
            refine cr_icmp_ne X 97 dL_act_90 rfl ?_ ?_
            · refine cr_iconst X (1 : Int32) (by decide) dL_act_97 ?_
              refine cr_sub (lv' := [(0, .ref (E.2.1 8 0)), (3, .int p3), (8, .ref (E.2.1 11 1)), (11, .int r66_20)]) [1, 4, 9, 0] rfl ?_
              exact b_L_act_98 X p3 r66_20 ((1 : Int32)) S
            · refine cr_iconst X (0 : Int32) (by decide) dL_act_93 ?_
              refine cr_goto X 98 dL_act_94 rfl ?_
              refine cr_sub (lv' := [(0, .ref (E.2.1 8 0)), (3, .int p3), (8, .ref (E.2.1 11 1)), (11, .int r66_20)]) [1, 4, 9, 0] rfl ?_
              exact b_L_act_98 X p3 r66_20 ((0 : Int32)) S
        · refine cr_iconst X (5 : Int32) (by decide) dL_act_76 ?_
          refine cr_goto X 98 dL_act_77 rfl ?_
          refine cr_sub (lv' := [(0, .ref (E.2.1 8 0)), (3, .int p3), (8, .ref (E.2.1 11 1)), (11, .int r66_20)]) [1, 4, 9, 0] rfl ?_
          exact b_L_act_98 X p3 r66_20 ((5 : Int32)) S
    · refine cr_aload_n X 0 rfl dL_act_19 ?_
      refine cr_iconst X (1 : Int32) (by decide) dL_act_20 ?_
      refine cr_iload_n X 2 rfl dL_act_21 ?_
      refine cr_bipush X (60 : Int32) (by decide) dL_act_22 ?_
      refine cr_callS X (As := [.int p2, .int ((60 : Int32))]) (rest := [.int ((1 : Int32)), .ref (E.2.1 8 0)]) (c_L_at Γ.2.1 E hEK S p2 ((60 : Int32))) 2 gL_act_L_at rfl rfl rfl (by decide +kernel) ⟨Nat.le_of_ble_eq_true rfl, Nat.le_of_ble_eq_true rfl⟩ (by decide) rfl rfl (Nat.le_of_ble_eq_true rfl) dL_act_24 (fun r24_21 => ?_)
      show cr_P Γ E 15 _ 0 0 S 27 ([(0, .ref (E.2.1 8 0)), (1, .int p1), (2, .int p2), (3, .int p3), (4, .ref (E.2.1 9 0)), (5, .ref (E.2.1 9 1)), (6, .ref (E.2.1 9 2)), (7, .ref (E.2.1 11 0)), (8, .ref (E.2.1 11 1)), (9, .ref (E.2.1 11 2)), (10, .ref (E.2.1 9 3))]) ([.int r24_21, .int ((1 : Int32)), .ref (E.2.1 8 0)]) _
      refine cr_iadd X dL_act_27 ?_
      refine cr_iload_n X 3 rfl dL_act_28 ?_
      refine cr_iconst X (3 : Int32) (by decide) dL_act_29 ?_
      refine cr_callS X (As := [.int p3, .int ((3 : Int32))]) (rest := [.int (((1 : Int32) + r24_21)), .ref (E.2.1 8 0)]) (c_L_at Γ.2.1 E hEK S p3 ((3 : Int32))) 2 gL_act_L_at rfl rfl rfl (by decide +kernel) ⟨Nat.le_of_ble_eq_true rfl, Nat.le_of_ble_eq_true rfl⟩ (by decide) rfl rfl (Nat.le_of_ble_eq_true rfl) dL_act_30 (fun r30_22 => ?_)
      show cr_P Γ E 15 _ 0 0 S 33 ([(0, .ref (E.2.1 8 0)), (1, .int p1), (2, .int p2), (3, .int p3), (4, .ref (E.2.1 9 0)), (5, .ref (E.2.1 9 1)), (6, .ref (E.2.1 9 2)), (7, .ref (E.2.1 11 0)), (8, .ref (E.2.1 11 1)), (9, .ref (E.2.1 11 2)), (10, .ref (E.2.1 9 3))]) ([.int r30_22, .int (((1 : Int32) + r24_21)), .ref (E.2.1 8 0)]) _
      refine cr_if_ne X 40 dL_act_33 rfl ?_ ?_
      · refine cr_iconst X (1 : Int32) (by decide) dL_act_40 ?_
        refine cr_iload_n X 3 rfl dL_act_41 ?_
        refine cr_iconst X (2 : Int32) (by decide) dL_act_42 ?_
        refine cr_ishr X dL_act_43 ?_
        refine cr_bipush X (20 : Int32) (by decide) dL_act_44 ?_
        refine cr_callS X (As := [.int ((p3 >>> ((2 : Int32) &&& 31))), .int ((20 : Int32))]) (rest := [.int ((1 : Int32)), .int (((1 : Int32) + r24_21)), .ref (E.2.1 8 0)]) (c_L_at Γ.2.1 E hEK S ((p3 >>> ((2 : Int32) &&& 31))) ((20 : Int32))) 2 gL_act_L_at rfl rfl rfl (by decide +kernel) ⟨Nat.le_of_ble_eq_true rfl, Nat.le_of_ble_eq_true rfl⟩ (by decide) rfl rfl (Nat.le_of_ble_eq_true rfl) dL_act_46 (fun r46_23 => ?_)
        show cr_P Γ E 15 _ 0 0 S 49 ([(0, .ref (E.2.1 8 0)), (1, .int p1), (2, .int p2), (3, .int p3), (4, .ref (E.2.1 9 0)), (5, .ref (E.2.1 9 1)), (6, .ref (E.2.1 9 2)), (7, .ref (E.2.1 11 0)), (8, .ref (E.2.1 11 1)), (9, .ref (E.2.1 11 2)), (10, .ref (E.2.1 9 3))]) ([.int r46_23, .int ((1 : Int32)), .int (((1 : Int32) + r24_21)), .ref (E.2.1 8 0)]) _
        refine cr_iadd X dL_act_49 ?_
        refine cr_sub (lv' := [(9, .ref (E.2.1 11 2)), (10, .ref (E.2.1 9 3))]) [9, 10] rfl ?_
        exact b_L_act_50 X (((1 : Int32) + r46_23)) (((1 : Int32) + r24_21)) S
      · refine cr_iconst X (0 : Int32) (by decide) dL_act_36 ?_
        refine cr_goto X 50 dL_act_37 rfl ?_
        refine cr_sub (lv' := [(9, .ref (E.2.1 11 2)), (10, .ref (E.2.1 9 3))]) [9, 10] rfl ?_
        exact b_L_act_50 X ((0 : Int32)) (((1 : Int32) + r24_21)) S
  · refine cr_aload_n X 0 rfl dL_act_5 ?_
    refine cr_iload_n X 2 rfl dL_act_6 ?_
    refine cr_iload_n X 3 rfl dL_act_7 ?_
    refine cr_aload X 7 rfl dL_act_8 ?_
    refine cr_callS X (As := [.ref (E.2.1 8 0), .int p2, .int p3, .ref (E.2.1 11 0)]) (rest := []) (c_L_winds Γ.2.1 E hEK S p2 p3) 4 gL_act_L_winds rfl rfl rfl (by decide +kernel) ⟨Nat.le_of_ble_eq_true rfl, Nat.le_of_ble_eq_true rfl⟩ (by decide) rfl rfl (Nat.le_of_ble_eq_true rfl) dL_act_10 (fun r10_24 => ?_)
    show cr_P Γ E 15 _ 0 0 r10_24.2 13 ([(0, .ref (E.2.1 8 0)), (1, .int p1), (2, .int p2), (3, .int p3), (4, .ref (E.2.1 9 0)), (5, .ref (E.2.1 9 1)), (6, .ref (E.2.1 9 2)), (7, .ref (E.2.1 11 0)), (8, .ref (E.2.1 11 1)), (9, .ref (E.2.1 11 2)), (10, .ref (E.2.1 9 3))]) ([.int (cr_b r10_24.1)]) _
    exact cr_zret X r10_24.1 rfl rfl rfl dL_act_13
