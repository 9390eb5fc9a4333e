theorem k_X0_copyFrom_1 : (Cond.fieldLink RX0 9 "CraneCampaign$Bogs" "place" "[I") ∈ wsX0_copyFrom := List.mem_of_getElem? (i := 1) (by rfl)
theorem k_X0_copyFrom_2 : (Cond.methodLink RX0 22 arraycopyName) ∈ wsX0_copyFrom := List.mem_of_getElem? (i := 2) (by rfl)
theorem k_X0_copyFrom_3 : (Cond.native arraycopyName) ∈ wsX0_copyFrom := List.mem_of_getElem? (i := 3) (by rfl)
theorem k_X0_copyFrom_4 : (Cond.static arraycopyName) ∈ wsX0_copyFrom := List.mem_of_getElem? (i := 4) (by rfl)
theorem k_X0_copyFrom_5 : (Cond.initialized "java/lang/System") ∈ wsX0_copyFrom := List.mem_of_getElem? (i := 5) (by rfl)
theorem k_X0_copyFrom_6 : (Cond.fieldLink RX0 15 "CraneCampaign$Bogs" "need" "[I") ∈ wsX0_copyFrom := List.mem_of_getElem? (i := 6) (by rfl)
theorem k_X0_copyFrom_7 : (Cond.fieldLink RX0 18 "CraneCampaign$Bogs" "count" "I") ∈ wsX0_copyFrom := List.mem_of_getElem? (i := 7) (by rfl)
theorem i_X0_copyFrom_X0 : ∀ w ∈ wsX00, w ∈ wsX0_copyFrom := by decide +kernel
abbrev rm_X0_copyFrom : Room := { frames := 1, cells := 0, slots := 0, locals := 40 }
set_option maxHeartbeats 4000000 in
set_option maxRecDepth 100000 in
theorem c_X0_copyFrom (l : Launch) (E : cr_E) (hEK : cr_EK E) (S0 : cr_S) {f : Nat} (hf : f < 8) {g : Nat} (hg : g < 8) (hne : g ≠ f) (G : cr_G) : cr_M l E yX0_copyFrom wsX0_copyFrom rm_X0_copyFrom [.ref (E.2.1 f 2), .ref (E.2.1 g 2)] (cr_us S0 f G) (cr_vVG S0 f) (s_X0_copyFrom (S0.1 g) G) := by
  refine cr_enter (cc := cX0_copyFrom) (nL := 2) (rt := none) hEK (by decide) rfl (Nat.le_of_ble_eq_true rfl) (fun Γ hΓ X => ?_)
  subst hΓ
  have X : cr_X Γ E cX0_copyFrom 2 RX0 wsX0_copyFrom rm_X0_copyFrom none := X
  unfold s_X0_copyFrom
  show cr_P Γ E 2 _ 0 0 (cr_us S0 f G) 0 ([(0, .ref (E.2.1 f 2)), (1, .ref (E.2.1 g 2))]) [] _
  refine cr_aload_n X 1 rfl dX0_copyFrom_0 ?_
  refine cr_get X ((cr_a2 E hg).at (cr_rowo S0 G hne 2) rfl) rfl i_X0_copyFrom_X0 0 (by decide) k_X0_copyFrom_1 rfl dX0_copyFrom_1 ?_
  refine cr_iconst X (0 : Int32) (by decide) dX0_copyFrom_4 ?_
  refine cr_aload_n X 0 rfl dX0_copyFrom_5 ?_
  refine cr_get X ((cr_a2 E hf).at (cr_row S0 f G 2) rfl) rfl i_X0_copyFrom_X0 0 (by decide) k_X0_copyFrom_1 rfl dX0_copyFrom_6 ?_
  refine cr_iconst X (0 : Int32) (by decide) dX0_copyFrom_9 ?_
  refine cr_bipush X (6 : Int32) (by decide) dX0_copyFrom_10 ?_
  refine cr_acopyG X ((S0.1 g) 3) ((cr_a3 E hg).at (cr_rowo S0 G hne 3) rfl) (cr_a3 E hf) (fun _ _ => rfl) 0 0 6 (by decide) (by decide) k_X0_copyFrom_2 k_X0_copyFrom_3 k_X0_copyFrom_4 k_X0_copyFrom_5 (by decide) (by decide +kernel) dX0_copyFrom_12 (fun G12_1 => ?_)
  refine cr_aload_n X 1 rfl dX0_copyFrom_15 ?_
  refine cr_get X ((cr_a2 E hg).at (cr_rowo S0 G12_1 hne 2) rfl) rfl i_X0_copyFrom_X0 1 (by decide) k_X0_copyFrom_6 rfl dX0_copyFrom_16 ?_
  refine cr_iconst X (0 : Int32) (by decide) dX0_copyFrom_19 ?_
  refine cr_aload_n X 0 rfl dX0_copyFrom_20 ?_
  refine cr_get X ((cr_a2 E hf).at (cr_row S0 f G12_1 2) rfl) rfl i_X0_copyFrom_X0 1 (by decide) k_X0_copyFrom_6 rfl dX0_copyFrom_21 ?_
  refine cr_iconst X (0 : Int32) (by decide) dX0_copyFrom_24 ?_
  refine cr_bipush X (6 : Int32) (by decide) dX0_copyFrom_25 ?_
  refine cr_acopyG X ((S0.1 g) 4) ((cr_a4 E hg).at (cr_rowo S0 G12_1 hne 4) rfl) (cr_a4 E hf) (fun _ _ => rfl) 0 0 6 (by decide) (by decide) k_X0_copyFrom_2 k_X0_copyFrom_3 k_X0_copyFrom_4 k_X0_copyFrom_5 (by decide) (by decide +kernel) dX0_copyFrom_27 (fun G27_2 => ?_)
  refine cr_aload_n X 0 rfl dX0_copyFrom_30 ?_
  refine cr_aload_n X 1 rfl dX0_copyFrom_31 ?_
  refine cr_get X ((cr_a2 E hg).at (cr_rowo S0 G27_2 hne 2) rfl) rfl i_X0_copyFrom_X0 2 (by decide) k_X0_copyFrom_7 rfl dX0_copyFrom_32 ?_
  refine cr_putG X (cr_a2 E hf) 2 rfl rfl rfl i_X0_copyFrom_X0 tyX0 tyX0_ok nmX0 (by decide) k_X0_copyFrom_7 rfl rfl rfl (Nat.le_of_ble_eq_true rfl) dX0_copyFrom_35 (fun G35_3 => ?_)
  exact cr_vret X rfl rfl dX0_copyFrom_38
theorem c_X0_copyFrom_S (l : Launch) (E : cr_E) (hEK : cr_EK E) (S : cr_S) {f : Nat} (hf : f < 8) {g : Nat} (hg : g < 8) (hne : g ≠ f) : cr_M l E yX0_copyFrom wsX0_copyFrom rm_X0_copyFrom [.ref (E.2.1 f 2), .ref (E.2.1 g 2)] S (cr_vVG S f) (s_X0_copyFrom (S.1 g)  (S.1 f)) := by
  have h := c_X0_copyFrom l E hEK S hf hg hne (S.1 f)
  rw [cr_us_self] at h
  exact h
theorem k_X0_countBetween_1 : (Cond.fieldLink RX0 18 "CraneCampaign$Bogs" "count" "I") ∈ wsX0_countBetween := List.mem_of_getElem? (i := 1) (by rfl)
theorem k_X0_countBetween_2 : (Cond.fieldLink RX0 9 "CraneCampaign$Bogs" "place" "[I") ∈ wsX0_countBetween := List.mem_of_getElem? (i := 2) (by rfl)
theorem k_X0_countBetween_3 : (Cond.fieldLink RX0 15 "CraneCampaign$Bogs" "need" "[I") ∈ wsX0_countBetween := List.mem_of_getElem? (i := 3) (by rfl)
theorem i_X0_countBetween_X0 : ∀ w ∈ wsX00, w ∈ wsX0_countBetween := by decide +kernel
abbrev rm_X0_countBetween : Room := { frames := 0, cells := 0, slots := 0, locals := 0 }
set_option maxHeartbeats 4000000 in
set_option maxRecDepth 100000 in
theorem b_X0_countBetween_6 {Γ : cr_C} {E : cr_E} (X : cr_X Γ E cX0_countBetween 6 RX0 wsX0_countBetween rm_X0_countBetween (some .int)) (S0 : cr_S) {f : Nat} (hf : f < 8) (G : cr_G) : ∀ (n : Nat) (x1 : Int32) (x2 : Int32) (x3 : Int32) (x4 : Int32) (x5 : Int32), cr_P Γ E 6 (cr_F Γ E (cr_vI (cr_us S0 f G))) 0 0 (cr_us S0 f G) 6 ([(0, .ref (E.2.1 f 2)), (1, .int x1), (2, .int x2), (3, .int x3), (4, .int x4), (5, .int x5)]) ([]) (s_X0_countBetween_6 G n x1 x2 x3 x4 x5) := by
  have hEK := X.2.2.2.2.2.2.1
  intro n
  induction n with
  | zero => intro x1 x2 x3 x4 x5; exact cr_none
  | succ n ih =>
    intro x1 x2 x3 x4 x5
    rw [s_X0_countBetween_6]
    refine cr_iload X 5 rfl dX0_countBetween_6 ?_
    refine cr_aload_n X 0 rfl dX0_countBetween_8 ?_
    refine cr_get X ((cr_a2 E hf).at (cr_row S0 f G 2) rfl) rfl i_X0_countBetween_X0 2 (by decide) k_X0_countBetween_1 rfl dX0_countBetween_9 ?_
    refine cr_icmp_ge X 57 dX0_countBetween_12 rfl ?_ ?_
    · refine cr_iload X 4 rfl dX0_countBetween_57 ?_
      exact cr_iret X rfl rfl dX0_countBetween_59
    · refine cr_aload_n X 0 rfl dX0_countBetween_15 ?_
      refine cr_get X ((cr_a2 E hf).at (cr_row S0 f G 2) rfl) rfl i_X0_countBetween_X0 0 (by decide) k_X0_countBetween_2 rfl dX0_countBetween_16 ?_
      refine cr_iload X 5 rfl dX0_countBetween_19 ?_
      refine cr_iald X ((cr_a3 E hf).at (cr_row S0 f G 3) rfl) dX0_countBetween_21 ?_
      refine cr_iload_n X 1 rfl dX0_countBetween_22 ?_
      refine cr_icmp_le X 51 dX0_countBetween_23 rfl ?_ ?_
      · refine cr_iinc X (x5 + 1) (fun v51_1 => [(5, .int v51_1), (0, .ref (E.2.1 f 2)), (1, .int x1), (2, .int x2), (3, .int x3), (4, .int x4)]) 5 rfl rfl (fun _ => rfl) (by decide) dX0_countBetween_51 (fun v51_1 => ?_)
        refine cr_goto X 6 dX0_countBetween_54 rfl ?_
        refine cr_sub (lv' := [(0, .ref (E.2.1 f 2)), (1, .int x1), (2, .int x2), (3, .int x3), (4, .int x4), (5, .int v51_1)]) [1, 2, 3, 4, 5, 0] rfl ?_
        exact ih x1 x2 x3 x4 v51_1
      · refine cr_aload_n X 0 rfl dX0_countBetween_26 ?_
        refine cr_get X ((cr_a2 E hf).at (cr_row S0 f G 2) rfl) rfl i_X0_countBetween_X0 0 (by decide) k_X0_countBetween_2 rfl dX0_countBetween_27 ?_
        refine cr_iload X 5 rfl dX0_countBetween_30 ?_
        refine cr_iald X ((cr_a3 E hf).at (cr_row S0 f G 3) rfl) dX0_countBetween_32 ?_
        refine cr_iload_n X 2 rfl dX0_countBetween_33 ?_
        refine cr_icmp_ge X 51 dX0_countBetween_34 rfl ?_ ?_
        · refine cr_iinc X (x5 + 1) (fun v51_2 => [(5, .int v51_2), (0, .ref (E.2.1 f 2)), (1, .int x1), (2, .int x2), (3, .int x3), (4, .int x4)]) 5 rfl rfl (fun _ => rfl) (by decide) dX0_countBetween_51 (fun v51_2 => ?_)
          refine cr_goto X 6 dX0_countBetween_54 rfl ?_
          refine cr_sub (lv' := [(0, .ref (E.2.1 f 2)), (1, .int x1), (2, .int x2), (3, .int x3), (4, .int x4), (5, .int v51_2)]) [1, 2, 3, 4, 5, 0] rfl ?_
          exact ih x1 x2 x3 x4 v51_2
        · refine cr_aload_n X 0 rfl dX0_countBetween_37 ?_
          refine cr_get X ((cr_a2 E hf).at (cr_row S0 f G 2) rfl) rfl i_X0_countBetween_X0 1 (by decide) k_X0_countBetween_3 rfl dX0_countBetween_38 ?_
          refine cr_iload X 5 rfl dX0_countBetween_41 ?_
          refine cr_iald X ((cr_a4 E hf).at (cr_row S0 f G 4) rfl) dX0_countBetween_43 ?_
          refine cr_iload_n X 3 rfl dX0_countBetween_44 ?_
          refine cr_icmp_le X 51 dX0_countBetween_45 rfl ?_ ?_
          · refine cr_iinc X (x5 + 1) (fun v51_3 => [(5, .int v51_3), (0, .ref (E.2.1 f 2)), (1, .int x1), (2, .int x2), (3, .int x3), (4, .int x4)]) 5 rfl rfl (fun _ => rfl) (by decide) dX0_countBetween_51 (fun v51_3 => ?_)
            refine cr_goto X 6 dX0_countBetween_54 rfl ?_
            refine cr_sub (lv' := [(0, .ref (E.2.1 f 2)), (1, .int x1), (2, .int x2), (3, .int x3), (4, .int x4), (5, .int v51_3)]) [1, 2, 3, 4, 5, 0] rfl ?_
            exact ih x1 x2 x3 x4 v51_3
          · refine cr_iinc X (x4 + 1) (fun v48_4 => [(4, .int v48_4), (0, .ref (E.2.1 f 2)), (1, .int x1), (2, .int x2), (3, .int x3), (5, .int x5)]) 4 rfl rfl (fun _ => rfl) (by decide) dX0_countBetween_48 (fun v48_4 => ?_)
            refine cr_iinc X (x5 + 1) (fun v51_5 => [(5, .int v51_5), (4, .int v48_4), (0, .ref (E.2.1 f 2)), (1, .int x1), (2, .int x2), (3, .int x3)]) 5 rfl rfl (fun _ => rfl) (by decide) dX0_countBetween_51 (fun v51_5 => ?_)
            refine cr_goto X 6 dX0_countBetween_54 rfl ?_
            refine cr_sub (lv' := [(0, .ref (E.2.1 f 2)), (1, .int x1), (2, .int x2), (3, .int x3), (4, .int v48_4), (5, .int v51_5)]) [2, 3, 4, 5, 1, 0] rfl ?_
            exact ih x1 x2 x3 v48_4 v51_5
set_option maxHeartbeats 4000000 in
set_option maxRecDepth 100000 in
theorem c_X0_countBetween (l : Launch) (E : cr_E) (hEK : cr_EK E) (S0 : cr_S) {f : Nat} (hf : f < 8) (G : cr_G) (p1 : Int32) (p2 : Int32) (p3 : Int32) : cr_M l E yX0_countBetween wsX0_countBetween rm_X0_countBetween [.ref (E.2.1 f 2), .int p1, .int p2, .int p3] (cr_us S0 f G) (cr_vI (cr_us S0 f G)) (s_X0_countBetween G p1 p2 p3) := by
  refine cr_enter (cc := cX0_countBetween) (nL := 6) (rt := (some .int)) hEK (by decide) rfl (Nat.le_of_ble_eq_true rfl) (fun Γ hΓ X => ?_)
  subst hΓ
  have X : cr_X Γ E cX0_countBetween 6 RX0 wsX0_countBetween rm_X0_countBetween (some .int) := X
  unfold s_X0_countBetween
  show cr_P Γ E 6 _ 0 0 (cr_us S0 f G) 0 ([(0, .ref (E.2.1 f 2)), (1, .int p1), (2, .int p2), (3, .int p3)]) [] _
  refine cr_iconst X (0 : Int32) (by decide) dX0_countBetween_0 ?_
  refine cr_istore X ([(4, .int ((0 : Int32))), (0, .ref (E.2.1 f 2)), (1, .int p1), (2, .int p2), (3, .int p3)]) rfl (by decide) dX0_countBetween_1 ?_
  refine cr_iconst X (0 : Int32) (by decide) dX0_countBetween_3 ?_
  refine cr_istore X ([(5, .int ((0 : Int32))), (4, .int ((0 : Int32))), (0, .ref (E.2.1 f 2)), (1, .int p1), (2, .int p2), (3, .int p3)]) rfl (by decide) dX0_countBetween_4 ?_
  refine cr_sub (lv' := [(0, .ref (E.2.1 f 2)), (1, .int p1), (2, .int p2), (3, .int p3), (4, .int ((0 : Int32))), (5, .int ((0 : Int32)))]) [2, 3, 4, 5, 1, 0] rfl ?_
  exact b_X0_countBetween_6 X S0 hf G 1200 p1 p2 p3 ((0 : Int32)) ((0 : Int32))
theorem c_X0_countBetween_S (l : Launch) (E : cr_E) (hEK : cr_EK E) (S : cr_S) {f : Nat} (hf : f < 8) (p1 : Int32) (p2 : Int32) (p3 : Int32) : cr_M l E yX0_countBetween wsX0_countBetween rm_X0_countBetween [.ref (E.2.1 f 2), .int p1, .int p2, .int p3] S (cr_vI S) (s_X0_countBetween (S.1 f) p1 p2 p3) := by
  have h := c_X0_countBetween l E hEK S hf (S.1 f) p1 p2 p3
  rw [cr_us_self] at h
  exact h
theorem k_X0_indexAt_1 : (Cond.fieldLink RX0 18 "CraneCampaign$Bogs" "count" "I") ∈ wsX0_indexAt := List.mem_of_getElem? (i := 1) (by rfl)
theorem k_X0_indexAt_2 : (Cond.fieldLink RX0 9 "CraneCampaign$Bogs" "place" "[I") ∈ wsX0_indexAt := List.mem_of_getElem? (i := 2) (by rfl)
theorem i_X0_indexAt_X0 : ∀ w ∈ wsX00, w ∈ wsX0_indexAt := by decide +kernel
abbrev rm_X0_indexAt : Room := { frames := 0, cells := 0, slots := 0, locals := 0 }
set_option maxHeartbeats 4000000 in
set_option maxRecDepth 100000 in
theorem b_X0_indexAt_2 {Γ : cr_C} {E : cr_E} (X : cr_X Γ E cX0_indexAt 3 RX0 wsX0_indexAt rm_X0_indexAt (some .int)) (S0 : cr_S) {f : Nat} (hf : f < 8) (G : cr_G) : ∀ (n : Nat) (x1 : Int32) (x2 : Int32), cr_P Γ E 3 (cr_F Γ E (cr_vI (cr_us S0 f G))) 0 0 (cr_us S0 f G) 2 ([(0, .ref (E.2.1 f 2)), (1, .int x1), (2, .int x2)]) ([]) (s_X0_indexAt_2 G n x1 x2) := by
  have hEK := X.2.2.2.2.2.2.1
  intro n
  induction n with
  | zero => intro x1 x2; exact cr_none
  | succ n ih =>
    intro x1 x2
    rw [s_X0_indexAt_2]
    refine cr_iload_n X 2 rfl dX0_indexAt_2 ?_
    refine cr_aload_n X 0 rfl dX0_indexAt_3 ?_
    refine cr_get X ((cr_a2 E hf).at (cr_row S0 f G 2) rfl) rfl i_X0_indexAt_X0 2 (by decide) k_X0_indexAt_1 rfl dX0_indexAt_4 ?_
    refine cr_icmp_ge X 28 dX0_indexAt_7 rfl ?_ ?_
    · refine cr_iconst X (-1 : Int32) (by decide) dX0_indexAt_28 ?_
      exact cr_iret X rfl rfl dX0_indexAt_29
    · refine cr_aload_n X 0 rfl dX0_indexAt_10 ?_
      refine cr_get X ((cr_a2 E hf).at (cr_row S0 f G 2) rfl) rfl i_X0_indexAt_X0 0 (by decide) k_X0_indexAt_2 rfl dX0_indexAt_11 ?_
      refine cr_iload_n X 2 rfl dX0_indexAt_14 ?_
      refine cr_iald X ((cr_a3 E hf).at (cr_row S0 f G 3) rfl) dX0_indexAt_15 ?_
      refine cr_iload_n X 1 rfl dX0_indexAt_16 ?_
      refine cr_icmp_ne X 22 dX0_indexAt_17 rfl ?_ ?_
      · refine cr_iinc X (x2 + 1) (fun v22_1 => [(2, .int v22_1), (0, .ref (E.2.1 f 2)), (1, .int x1)]) 2 rfl rfl (fun _ => rfl) (by decide) dX0_indexAt_22 (fun v22_1 => ?_)
        refine cr_goto X 2 dX0_indexAt_25 rfl ?_
        refine cr_sub (lv' := [(0, .ref (E.2.1 f 2)), (1, .int x1), (2, .int v22_1)]) [1, 2, 0] rfl ?_
        exact ih x1 v22_1
      · refine cr_iload_n X 2 rfl dX0_indexAt_20 ?_
        exact cr_iret X rfl rfl dX0_indexAt_21
set_option maxHeartbeats 4000000 in
set_option maxRecDepth 100000 in
theorem c_X0_indexAt (l : Launch) (E : cr_E) (hEK : cr_EK E) (S0 : cr_S) {f : Nat} (hf : f < 8) (G : cr_G) (p1 : Int32) : cr_M l E yX0_indexAt wsX0_indexAt rm_X0_indexAt [.ref (E.2.1 f 2), .int p1] (cr_us S0 f G) (cr_vI (cr_us S0 f G)) (s_X0_indexAt G p1) := by
  refine cr_enter (cc := cX0_indexAt) (nL := 3) (rt := (some .int)) hEK (by decide) rfl (Nat.le_of_ble_eq_true rfl) (fun Γ hΓ X => ?_)
  subst hΓ
  have X : cr_X Γ E cX0_indexAt 3 RX0 wsX0_indexAt rm_X0_indexAt (some .int) := X
  unfold s_X0_indexAt
  show cr_P Γ E 3 _ 0 0 (cr_us S0 f G) 0 ([(0, .ref (E.2.1 f 2)), (1, .int p1)]) [] _
  refine cr_iconst X (0 : Int32) (by decide) dX0_indexAt_0 ?_
  refine cr_istore_n X ([(2, .int ((0 : Int32))), (0, .ref (E.2.1 f 2)), (1, .int p1)]) rfl (by decide) dX0_indexAt_1 ?_
  refine cr_sub (lv' := [(0, .ref (E.2.1 f 2)), (1, .int p1), (2, .int ((0 : Int32)))]) [1, 2, 0] rfl ?_
  exact b_X0_indexAt_2 X S0 hf G 1200 p1 ((0 : Int32))
theorem c_X0_indexAt_S (l : Launch) (E : cr_E) (hEK : cr_EK E) (S : cr_S) {f : Nat} (hf : f < 8) (p1 : Int32) : cr_M l E yX0_indexAt wsX0_indexAt rm_X0_indexAt [.ref (E.2.1 f 2), .int p1] S (cr_vI S) (s_X0_indexAt (S.1 f) p1) := by
  have h := c_X0_indexAt l E hEK S hf (S.1 f) p1
  rw [cr_us_self] at h
  exact h
theorem k_X0_isFull_1 : (Cond.fieldLink RX0 18 "CraneCampaign$Bogs" "count" "I") ∈ wsX0_isFull := List.mem_of_getElem? (i := 1) (by rfl)
theorem i_X0_isFull_X0 : ∀ w ∈ wsX00, w ∈ wsX0_isFull := by decide +kernel
abbrev rm_X0_isFull : Room := { frames := 0, cells := 0, slots := 0, locals := 0 }
set_option maxHeartbeats 4000000 in
set_option maxRecDepth 100000 in
theorem c_X0_isFull (l : Launch) (E : cr_E) (hEK : cr_EK E) (S0 : cr_S) {f : Nat} (hf : f < 8) (G : cr_G) : cr_M l E yX0_isFull wsX0_isFull rm_X0_isFull [.ref (E.2.1 f 2)] (cr_us S0 f G) (cr_vB (cr_us S0 f G)) (s_X0_isFull G) := by
  refine cr_enter (cc := cX0_isFull) (nL := 1) (rt := (some .boolean)) hEK (by decide) rfl (Nat.le_of_ble_eq_true rfl) (fun Γ hΓ X => ?_)
  subst hΓ
  have X : cr_X Γ E cX0_isFull 1 RX0 wsX0_isFull rm_X0_isFull (some .boolean) := X
  unfold s_X0_isFull
  show cr_P Γ E 1 _ 0 0 (cr_us S0 f G) 0 ([(0, .ref (E.2.1 f 2))]) [] _
  refine cr_aload_n X 0 rfl dX0_isFull_0 ?_
  refine cr_get X ((cr_a2 E hf).at (cr_row S0 f G 2) rfl) rfl i_X0_isFull_X0 2 (by decide) k_X0_isFull_1 rfl dX0_isFull_1 ?_
  refine cr_bipush X (6 : Int32) (by decide) dX0_isFull_4 ?_
  refine cr_icmp_lt X 13 dX0_isFull_6 rfl ?_ ?_
  · refine cr_iconst X (0 : Int32) (by decide) dX0_isFull_13 ?_
    exact cr_zret X false rfl rfl rfl dX0_isFull_14
  · refine cr_iconst X (1 : Int32) (by decide) dX0_isFull_9 ?_
    refine cr_goto X 14 dX0_isFull_10 rfl ?_
    exact cr_zret X true rfl rfl rfl dX0_isFull_14
theorem c_X0_isFull_S (l : Launch) (E : cr_E) (hEK : cr_EK E) (S : cr_S) {f : Nat} (hf : f < 8) : cr_M l E yX0_isFull wsX0_isFull rm_X0_isFull [.ref (E.2.1 f 2)] S (cr_vB S) (s_X0_isFull (S.1 f)) := by
  have h := c_X0_isFull l E hEK S hf (S.1 f)
  rw [cr_us_self] at h
  exact h
theorem k_X0_insert_1 : (Cond.fieldLink RX0 18 "CraneCampaign$Bogs" "count" "I") ∈ wsX0_insert := List.mem_of_getElem? (i := 1) (by rfl)
theorem k_X0_insert_2 : (Cond.fieldLink RX0 9 "CraneCampaign$Bogs" "place" "[I") ∈ wsX0_insert := List.mem_of_getElem? (i := 2) (by rfl)
theorem k_X0_insert_3 : (Cond.fieldLink RX0 15 "CraneCampaign$Bogs" "need" "[I") ∈ wsX0_insert := List.mem_of_getElem? (i := 3) (by rfl)
theorem i_X0_insert_X0 : ∀ w ∈ wsX00, w ∈ wsX0_insert := by decide +kernel
abbrev rm_X0_insert : Room := { frames := 1, cells := 0, slots := 0, locals := 20 }
set_option maxHeartbeats 4000000 in
set_option maxRecDepth 100000 in
theorem b_X0_insert_80 {Γ : cr_C} {E : cr_E} (X : cr_X Γ E cX0_insert 5 RX0 wsX0_insert rm_X0_insert none) (S0 : cr_S) {f : Nat} (hf : f < 8) (x1 : Int32) (x2 : Int32) (x3 : Int32) (G : cr_G) : cr_P Γ E 5 (cr_F Γ E (cr_vVG S0 f)) 0 0 (cr_us S0 f G) 80 ([(0, .ref (E.2.1 f 2)), (1, .int x1), (2, .int x2), (3, .int x3)]) ([]) (s_X0_insert_80 x1 x2 x3 G) := by
  have hEK := X.2.2.2.2.2.2.1
  unfold s_X0_insert_80
  refine cr_aload_n X 0 rfl dX0_insert_80 ?_
  refine cr_get X ((cr_a2 E hf).at (cr_row S0 f G 2) rfl) rfl i_X0_insert_X0 0 (by decide) k_X0_insert_2 rfl dX0_insert_81 ?_
  refine cr_iload_n X 3 rfl dX0_insert_84 ?_
  refine cr_iload_n X 1 rfl dX0_insert_85 ?_
  refine cr_iastG X (cr_a3 E hf) (fun _ _ => rfl) dX0_insert_86 (fun G86_8 => ?_)
  refine cr_aload_n X 0 rfl dX0_insert_87 ?_
  refine cr_get X ((cr_a2 E hf).at (cr_row S0 f G86_8 2) rfl) rfl i_X0_insert_X0 1 (by decide) k_X0_insert_3 rfl dX0_insert_88 ?_
  refine cr_iload_n X 3 rfl dX0_insert_91 ?_
  refine cr_iload_n X 2 rfl dX0_insert_92 ?_
  refine cr_iastG X (cr_a4 E hf) (fun _ _ => rfl) dX0_insert_93 (fun G93_9 => ?_)
  refine cr_aload_n X 0 rfl dX0_insert_94 ?_
  refine cr_dup X rfl dX0_insert_95 ?_
  refine cr_get X ((cr_a2 E hf).at (cr_row S0 f G93_9 2) rfl) rfl i_X0_insert_X0 2 (by decide) k_X0_insert_1 rfl dX0_insert_96 ?_
  refine cr_iconst X (1 : Int32) (by decide) dX0_insert_99 ?_
  refine cr_iadd X dX0_insert_100 ?_
  refine cr_putG X (cr_a2 E hf) 2 rfl rfl rfl i_X0_insert_X0 tyX0 tyX0_ok nmX0 (by decide) k_X0_insert_1 rfl rfl rfl (Nat.le_of_ble_eq_true rfl) dX0_insert_101 (fun G101_10 => ?_)
  exact cr_vret X rfl rfl dX0_insert_104
set_option maxHeartbeats 4000000 in
set_option maxRecDepth 100000 in
theorem b_X0_insert_19 {Γ : cr_C} {E : cr_E} (X : cr_X Γ E cX0_insert 5 RX0 wsX0_insert rm_X0_insert none) (S0 : cr_S) {f : Nat} (hf : f < 8) : ∀ (n : Nat) (x1 : Int32) (x2 : Int32) (x3 : Int32) (x4 : Int32) (G : cr_G), cr_P Γ E 5 (cr_F Γ E (cr_vVG S0 f)) 0 0 (cr_us S0 f G) 19 ([(0, .ref (E.2.1 f 2)), (1, .int x1), (2, .int x2), (3, .int x3), (4, .int x4)]) ([]) (s_X0_insert_19 n x1 x2 x3 x4 G) := by
  have hEK := X.2.2.2.2.2.2.1
  intro n
  induction n with
  | zero => intro x1 x2 x3 x4 G; exact cr_none
  | succ n ih =>
    intro x1 x2 x3 x4 G
    rw [s_X0_insert_19]
    refine cr_iload X 4 rfl dX0_insert_19 ?_
    refine cr_if_le X 80 dX0_insert_21 rfl ?_ ?_
    · refine cr_sub (lv' := [(0, .ref (E.2.1 f 2)), (1, .int x1), (2, .int x2), (3, .int x3)]) [0, 1, 2, 3] rfl ?_
      exact b_X0_insert_80 X S0 hf x1 x2 x3 G
    · refine cr_aload_n X 0 rfl dX0_insert_24 ?_
      refine cr_get X ((cr_a2 E hf).at (cr_row S0 f G 2) rfl) rfl i_X0_insert_X0 0 (by decide) k_X0_insert_2 rfl dX0_insert_25 ?_
      refine cr_iload X 4 rfl dX0_insert_28 ?_
      refine cr_iconst X (1 : Int32) (by decide) dX0_insert_30 ?_
      refine cr_isub X dX0_insert_31 ?_
      refine cr_iald X ((cr_a3 E hf).at (cr_row S0 f G 3) rfl) dX0_insert_32 ?_
      refine cr_iload_n X 1 rfl dX0_insert_33 ?_
      refine cr_icmp_le X 80 dX0_insert_34 rfl ?_ ?_
      · refine cr_sub (lv' := [(0, .ref (E.2.1 f 2)), (1, .int x1), (2, .int x2), (3, .int x3)]) [0, 1, 2, 3] rfl ?_
        exact b_X0_insert_80 X S0 hf x1 x2 x3 G
      · refine cr_aload_n X 0 rfl dX0_insert_37 ?_
        refine cr_get X ((cr_a2 E hf).at (cr_row S0 f G 2) rfl) rfl i_X0_insert_X0 0 (by decide) k_X0_insert_2 rfl dX0_insert_38 ?_
        refine cr_iload X 4 rfl dX0_insert_41 ?_
        refine cr_aload_n X 0 rfl dX0_insert_43 ?_
        refine cr_get X ((cr_a2 E hf).at (cr_row S0 f G 2) rfl) rfl i_X0_insert_X0 0 (by decide) k_X0_insert_2 rfl dX0_insert_44 ?_
        refine cr_iload X 4 rfl dX0_insert_47 ?_
        refine cr_iconst X (1 : Int32) (by decide) dX0_insert_49 ?_
        refine cr_isub X dX0_insert_50 ?_
        refine cr_iald X ((cr_a3 E hf).at (cr_row S0 f G 3) rfl) dX0_insert_51 ?_
        refine cr_iastG X (cr_a3 E hf) (fun _ _ => rfl) dX0_insert_52 (fun G52_4 => ?_)
        refine cr_aload_n X 0 rfl dX0_insert_53 ?_
        refine cr_get X ((cr_a2 E hf).at (cr_row S0 f G52_4 2) rfl) rfl i_X0_insert_X0 1 (by decide) k_X0_insert_3 rfl dX0_insert_54 ?_
        refine cr_iload X 4 rfl dX0_insert_57 ?_
        refine cr_aload_n X 0 rfl dX0_insert_59 ?_
        refine cr_get X ((cr_a2 E hf).at (cr_row S0 f G52_4 2) rfl) rfl i_X0_insert_X0 1 (by decide) k_X0_insert_3 rfl dX0_insert_60 ?_
        refine cr_iload X 4 rfl dX0_insert_63 ?_
        refine cr_iconst X (1 : Int32) (by decide) dX0_insert_65 ?_
        refine cr_isub X dX0_insert_66 ?_
        refine cr_iald X ((cr_a4 E hf).at (cr_row S0 f G52_4 4) rfl) dX0_insert_67 ?_
        refine cr_iastG X (cr_a4 E hf) (fun _ _ => rfl) dX0_insert_68 (fun G68_5 => ?_)
        refine cr_iload X 4 rfl dX0_insert_69 ?_
        refine cr_iconst X (1 : Int32) (by decide) dX0_insert_71 ?_
        refine cr_isub X dX0_insert_72 ?_
        refine cr_istore_nb X (fun v73_6 => [(3, .int v73_6), (0, .ref (E.2.1 f 2)), (1, .int x1), (2, .int x2), (4, .int x4)]) (fun _ => rfl) (by decide) dX0_insert_73 (fun v73_6 => ?_)
        refine cr_iinc X (x4 + (-1)) (fun v74_7 => [(4, .int v74_7), (3, .int v73_6), (0, .ref (E.2.1 f 2)), (1, .int x1), (2, .int x2)]) 4 rfl (congrArg (fun z => x4 + z) (show Int32.ofInt (-1) = (-1 : Int32) by decide)) (fun _ => rfl) (by decide) dX0_insert_74 (fun v74_7 => ?_)
        refine cr_goto X 19 dX0_insert_77 rfl ?_
        refine cr_sub (lv' := [(0, .ref (E.2.1 f 2)), (1, .int x1), (2, .int x2), (3, .int v73_6), (4, .int v74_7)]) [2, 3, 4, 1, 0] rfl ?_
        exact ih x1 x2 v73_6 v74_7 G68_5
set_option maxHeartbeats 4000000 in
set_option maxRecDepth 100000 in
theorem c_X0_insert (l : Launch) (E : cr_E) (hEK : cr_EK E) (S0 : cr_S) {f : Nat} (hf : f < 8) (G : cr_G) (p1 : Int32) (p2 : Int32) : cr_M l E yX0_insert wsX0_insert rm_X0_insert [.ref (E.2.1 f 2), .int p1, .int p2] (cr_us S0 f G) (cr_vVG S0 f) (s_X0_insert p1 p2 G) := by
  refine cr_enter (cc := cX0_insert) (nL := 5) (rt := none) hEK (by decide) rfl (Nat.le_of_ble_eq_true rfl) (fun Γ hΓ X => ?_)
  subst hΓ
  have X : cr_X Γ E cX0_insert 5 RX0 wsX0_insert rm_X0_insert none := X
  unfold s_X0_insert
  show cr_P Γ E 5 _ 0 0 (cr_us S0 f G) 0 ([(0, .ref (E.2.1 f 2)), (1, .int p1), (2, .int p2)]) [] _
  refine cr_aload_n X 0 rfl dX0_insert_0 ?_
  refine cr_callV X (As := []) (rest := []) (c_X0_isFull Γ.2.1 E hEK S0 hf G) ((cr_a2 E hf).at (cr_row S0 f G 2) rfl) rfl 0 gX0_insert_X0_isFull rfl rfl rfl (by decide +kernel) ⟨Nat.le_of_ble_eq_true rfl, Nat.le_of_ble_eq_true rfl⟩ (by decide) rfl rfl (Nat.le_of_ble_eq_true rfl) dX0_insert_1 (fun r1_1 => ?_)
  show cr_P Γ E 5 _ 0 0 (cr_us S0 f G) 4 ([(0, .ref (E.2.1 f 2)), (1, .int p1), (2, .int p2)]) ([.int (cr_b r1_1)]) _
  refine cr_ifb_eq X 8 dX0_insert_4 rfl ?_ ?_
  · refine cr_aload_n X 0 rfl dX0_insert_8 ?_
    refine cr_get X ((cr_a2 E hf).at (cr_row S0 f G 2) rfl) rfl i_X0_insert_X0 2 (by decide) k_X0_insert_1 rfl dX0_insert_9 ?_
    refine cr_istore_nb X (fun v12_2 => [(3, .int v12_2), (0, .ref (E.2.1 f 2)), (1, .int p1), (2, .int p2)]) (fun _ => rfl) (by decide) dX0_insert_12 (fun v12_2 => ?_)
    refine cr_aload_n X 1 rfl dX0_insert_13 ?_
    refine cr_get X ((cr_a2 E hf).at (cr_row S0 f G 2) rfl) rfl i_X0_insert_X0 2 (by decide) k_X0_insert_1 rfl dX0_insert_14 ?_
    refine cr_istoreb X (fun v17_3 => [(4, .int v17_3), (3, .int v12_2), (0, .ref (E.2.1 f 2)), (1, .int p1), (2, .int p2)]) (fun _ => rfl) (by decide) dX0_insert_17 (fun v17_3 => ?_)
    refine cr_sub (lv' := [(0, .ref (E.2.1 f 2)), (1, .int p1), (2, .int p2), (3, .int v12_2), (4, .int v17_3)]) [2, 3, 4, 1, 0] rfl ?_
    exact b_X0_insert_19 X S0 hf 1200 p1 p2 v12_2 v17_3 G
  · exact cr_vret X rfl rfl dX0_insert_7
theorem c_X0_insert_S (l : Launch) (E : cr_E) (hEK : cr_EK E) (S : cr_S) {f : Nat} (hf : f < 8) (p1 : Int32) (p2 : Int32) : cr_M l E yX0_insert wsX0_insert rm_X0_insert [.ref (E.2.1 f 2), .int p1, .int p2] S (cr_vVG S f) (s_X0_insert  p1 p2 (S.1 f)) := by
  have h := c_X0_insert l E hEK S hf (S.1 f) p1 p2
  rw [cr_us_self] at h
  exact h
theorem k_X0_removeAt_1 : (Cond.fieldLink RX0 18 "CraneCampaign$Bogs" "count" "I") ∈ wsX0_removeAt := List.mem_of_getElem? (i := 1) (by rfl)
theorem k_X0_removeAt_2 : (Cond.fieldLink RX0 9 "CraneCampaign$Bogs" "place" "[I") ∈ wsX0_removeAt := List.mem_of_getElem? (i := 2) (by rfl)
theorem k_X0_removeAt_3 : (Cond.fieldLink RX0 15 "CraneCampaign$Bogs" "need" "[I") ∈ wsX0_removeAt := List.mem_of_getElem? (i := 3) (by rfl)
theorem i_X0_removeAt_X0 : ∀ w ∈ wsX00, w ∈ wsX0_removeAt := by decide +kernel
abbrev rm_X0_removeAt : Room := { frames := 0, cells := 0, slots := 0, locals := 0 }
set_option maxHeartbeats 4000000 in
set_option maxRecDepth 100000 in
theorem b_X0_removeAt_25 {Γ : cr_C} {E : cr_E} (X : cr_X Γ E cX0_removeAt 3 RX0 wsX0_removeAt rm_X0_removeAt none) (S0 : cr_S) {f : Nat} (hf : f < 8) : ∀ (n : Nat) (x2 : Int32) (G : cr_G), cr_P Γ E 3 (cr_F Γ E (cr_vVG S0 f)) 0 0 (cr_us S0 f G) 25 ([(0, .ref (E.2.1 f 2)), (2, .int x2)]) ([]) (s_X0_removeAt_25 n x2 G) := by
  have hEK := X.2.2.2.2.2.2.1
  intro n
  induction n with
  | zero => intro x2 G; exact cr_none
  | succ n ih =>
    intro x2 G
    rw [s_X0_removeAt_25]
    refine cr_iload_n X 1 rfl dX0_removeAt_25 ?_
    refine cr_aload_n X 0 rfl dX0_removeAt_26 ?_
    refine cr_get X ((cr_a2 E hf).at (cr_row S0 f G 2) rfl) rfl i_X0_removeAt_X0 2 (by decide) k_X0_removeAt_1 rfl dX0_removeAt_27 ?_
    refine cr_icmp_ge X 67 dX0_removeAt_30 rfl ?_ ?_
    · exact cr_vret X rfl rfl dX0_removeAt_67
    · refine cr_aload_n X 0 rfl dX0_removeAt_33 ?_
      refine cr_get X ((cr_a2 E hf).at (cr_row S0 f G 2) rfl) rfl i_X0_removeAt_X0 0 (by decide) k_X0_removeAt_2 rfl dX0_removeAt_34 ?_
      refine cr_iload_n X 1 rfl dX0_removeAt_37 ?_
      refine cr_aload_n X 0 rfl dX0_removeAt_38 ?_
      refine cr_get X ((cr_a2 E hf).at (cr_row S0 f G 2) rfl) rfl i_X0_removeAt_X0 0 (by decide) k_X0_removeAt_2 rfl dX0_removeAt_39 ?_
      refine cr_iload_n X 1 rfl dX0_removeAt_42 ?_
      refine cr_iconst X (1 : Int32) (by decide) dX0_removeAt_43 ?_
      refine cr_iadd X dX0_removeAt_44 ?_
      refine cr_iald X ((cr_a3 E hf).at (cr_row S0 f G 3) rfl) dX0_removeAt_45 ?_
      refine cr_iastG X (cr_a3 E hf) (fun _ _ => rfl) dX0_removeAt_46 (fun G46_2 => ?_)
      refine cr_aload_n X 0 rfl dX0_removeAt_47 ?_
      refine cr_get X ((cr_a2 E hf).at (cr_row S0 f G46_2 2) rfl) rfl i_X0_removeAt_X0 1 (by decide) k_X0_removeAt_3 rfl dX0_removeAt_48 ?_
      refine cr_iload_n X 1 rfl dX0_removeAt_51 ?_
      refine cr_aload_n X 0 rfl dX0_removeAt_52 ?_
      refine cr_get X ((cr_a2 E hf).at (cr_row S0 f G46_2 2) rfl) rfl i_X0_removeAt_X0 1 (by decide) k_X0_removeAt_3 rfl dX0_removeAt_53 ?_
      refine cr_iload_n X 1 rfl dX0_removeAt_56 ?_
      refine cr_iconst X (1 : Int32) (by decide) dX0_removeAt_57 ?_
      refine cr_iadd X dX0_removeAt_58 ?_
      refine cr_iald X ((cr_a4 E hf).at (cr_row S0 f G46_2 4) rfl) dX0_removeAt_59 ?_
      refine cr_iastG X (cr_a4 E hf) (fun _ _ => rfl) dX0_removeAt_60 (fun G60_3 => ?_)
      refine cr_iinc X (x2 + 1) (fun v61_4 => [(2, .int v61_4), (0, .ref (E.2.1 f 2))]) 1 rfl rfl (fun _ => rfl) (by decide) dX0_removeAt_61 (fun v61_4 => ?_)
      refine cr_goto X 25 dX0_removeAt_64 rfl ?_
      refine cr_sub (lv' := [(0, .ref (E.2.1 f 2)), (2, .int v61_4)]) [1, 0] rfl ?_
      exact ih v61_4 G60_3
set_option maxHeartbeats 4000000 in
set_option maxRecDepth 100000 in
theorem c_X0_removeAt (l : Launch) (E : cr_E) (hEK : cr_EK E) (S0 : cr_S) {f : Nat} (hf : f < 8) (G : cr_G) (p1 : Int32) : cr_M l E yX0_removeAt wsX0_removeAt rm_X0_removeAt [.ref (E.2.1 f 2), .int p1] (cr_us S0 f G) (cr_vVG S0 f) (s_X0_removeAt p1 G) := by
  refine cr_enter (cc := cX0_removeAt) (nL := 3) (rt := none) hEK (by decide) rfl (Nat.le_of_ble_eq_true rfl) (fun Γ hΓ X => ?_)
  subst hΓ
  have X : cr_X Γ E cX0_removeAt 3 RX0 wsX0_removeAt rm_X0_removeAt none := X
  unfold s_X0_removeAt
  show cr_P Γ E 3 _ 0 0 (cr_us S0 f G) 0 ([(0, .ref (E.2.1 f 2)), (1, .int p1)]) [] _
  refine cr_iload_n X 1 rfl dX0_removeAt_0 ?_
  refine cr_if_lt X 12 dX0_removeAt_1 rfl ?_ ?_
  · exact cr_vret X rfl rfl dX0_removeAt_12
  · refine cr_iload_n X 1 rfl dX0_removeAt_4 ?_
    refine cr_aload_n X 0 rfl dX0_removeAt_5 ?_
    refine cr_get X ((cr_a2 E hf).at (cr_row S0 f G 2) rfl) rfl i_X0_removeAt_X0 2 (by decide) k_X0_removeAt_1 rfl dX0_removeAt_6 ?_
    refine cr_icmp_lt X 13 dX0_removeAt_9 rfl ?_ ?_
    · refine cr_aload_n X 0 rfl dX0_removeAt_13 ?_
      refine cr_dup X rfl dX0_removeAt_14 ?_
      refine cr_get X ((cr_a2 E hf).at (cr_row S0 f G 2) rfl) rfl i_X0_removeAt_X0 2 (by decide) k_X0_removeAt_1 rfl dX0_removeAt_15 ?_
      refine cr_iconst X (1 : Int32) (by decide) dX0_removeAt_18 ?_
      refine cr_isub X dX0_removeAt_19 ?_
      refine cr_putG X (cr_a2 E hf) 2 rfl rfl rfl i_X0_removeAt_X0 tyX0 tyX0_ok nmX0 (by decide) k_X0_removeAt_1 rfl rfl rfl (Nat.le_of_ble_eq_true rfl) dX0_removeAt_20 (fun G20_1 => ?_)
      refine cr_iload_n X 1 rfl dX0_removeAt_23 ?_
      refine cr_istore_n X ([(2, .int p1), (0, .ref (E.2.1 f 2)), (1, .int p1)]) rfl (by decide) dX0_removeAt_24 ?_
      refine cr_sub (lv' := [(0, .ref (E.2.1 f 2)), (2, .int p1)]) [1, 0] rfl ?_
      exact b_X0_removeAt_25 X S0 hf 1200 p1 G20_1
    · exact cr_vret X rfl rfl dX0_removeAt_12
theorem c_X0_removeAt_S (l : Launch) (E : cr_E) (hEK : cr_EK E) (S : cr_S) {f : Nat} (hf : f < 8) (p1 : Int32) : cr_M l E yX0_removeAt wsX0_removeAt rm_X0_removeAt [.ref (E.2.1 f 2), .int p1] S (cr_vVG S f) (s_X0_removeAt  p1 (S.1 f)) := by
  have h := c_X0_removeAt l E hEK S hf (S.1 f) p1
  rw [cr_us_self] at h
  exact h
theorem k_X0_put_1 : (Cond.fieldLink RX0 15 "CraneCampaign$Bogs" "need" "[I") ∈ wsX0_put := List.mem_of_getElem? (i := 1) (by rfl)
theorem i_X0_put_X0 : ∀ w ∈ wsX00, w ∈ wsX0_put := by decide +kernel
abbrev rm_X0_put : Room := { frames := 2, cells := 0, slots := 0, locals := 44 }
set_option maxHeartbeats 4000000 in
set_option maxRecDepth 100000 in
theorem c_X0_put (l : Launch) (E : cr_E) (hEK : cr_EK E) (S0 : cr_S) {f : Nat} (hf : f < 8) (G : cr_G) (p1 : Int32) (p2 : Int32) : cr_M l E yX0_put wsX0_put rm_X0_put [.ref (E.2.1 f 2), .int p1, .int p2] (cr_us S0 f G) (cr_vVG S0 f) (s_X0_put p1 p2 G) := by
  refine cr_enter (cc := cX0_put) (nL := 4) (rt := none) hEK (by decide) rfl (Nat.le_of_ble_eq_true rfl) (fun Γ hΓ X => ?_)
  subst hΓ
  have X : cr_X Γ E cX0_put 4 RX0 wsX0_put rm_X0_put none := X
  unfold s_X0_put
  show cr_P Γ E 4 _ 0 0 (cr_us S0 f G) 0 ([(0, .ref (E.2.1 f 2)), (1, .int p1), (2, .int p2)]) [] _
  refine cr_aload_n X 0 rfl dX0_put_0 ?_
  refine cr_iload_n X 1 rfl dX0_put_1 ?_
  refine cr_callV X (As := [.int p1]) (rest := []) (c_X0_indexAt Γ.2.1 E hEK S0 hf G p1) ((cr_a2 E hf).at (cr_row S0 f G 2) rfl) rfl 1 gX0_put_X0_indexAt rfl rfl rfl (by decide +kernel) ⟨Nat.le_of_ble_eq_true rfl, Nat.le_of_ble_eq_true rfl⟩ (by decide) rfl rfl (Nat.le_of_ble_eq_true rfl) dX0_put_2 (fun r2_1 => ?_)
  show cr_P Γ E 4 _ 0 0 (cr_us S0 f G) 5 ([(0, .ref (E.2.1 f 2)), (1, .int p1), (2, .int p2)]) ([.int r2_1]) _
  refine cr_istore_n X ([(3, .int r2_1), (0, .ref (E.2.1 f 2)), (1, .int p1), (2, .int p2)]) rfl (by decide) dX0_put_5 ?_
  refine cr_iload_n X 3 rfl dX0_put_6 ?_
  refine cr_if_ne X 18 dX0_put_7 rfl ?_ ?_
  · refine cr_iload_n X 0 rfl dX0_put_18 ?_
    refine cr_iconst X (-1 : Int32) (by decide) dX0_put_19 ?_
    refine cr_icmp_ne X 32 dX0_put_20 rfl ?_ ?_
    · refine cr_aload_n X 1 rfl dX0_put_32 ?_
      refine cr_get X ((cr_a2 E hf).at (cr_row S0 f G 2) rfl) rfl i_X0_put_X0 1 (by decide) k_X0_put_1 rfl dX0_put_33 ?_
      refine cr_iload_n X 0 rfl dX0_put_36 ?_
      refine cr_iload_n X 3 rfl dX0_put_37 ?_
      refine cr_iastG X (cr_a4 E hf) (fun _ _ => rfl) dX0_put_38 (fun G38_2 => ?_)
      exact cr_vret X rfl rfl dX0_put_39
    · refine cr_aload_n X 1 rfl dX0_put_23 ?_
      refine cr_iload_n X 2 rfl dX0_put_24 ?_
      refine cr_iload_n X 3 rfl dX0_put_25 ?_
      refine cr_callV X (As := [.int p1, .int p2]) (rest := []) (c_X0_insert Γ.2.1 E hEK S0 hf G p1 p2) ((cr_a2 E hf).at (cr_row S0 f G 2) rfl) rfl 2 gX0_put_X0_insert rfl rfl rfl (by decide +kernel) ⟨Nat.le_of_ble_eq_true rfl, Nat.le_of_ble_eq_true rfl⟩ (by decide) rfl rfl (Nat.le_of_ble_eq_true rfl) dX0_put_26 (fun r26_3 => ?_)
      show cr_P Γ E 4 _ 0 0 (cr_us S0 f r26_3) 29 ([(3, .int r2_1), (0, .ref (E.2.1 f 2)), (1, .int p1), (2, .int p2)]) ([]) _
      refine cr_goto X 39 dX0_put_29 rfl ?_
      exact cr_vret X rfl rfl dX0_put_39
  · refine cr_aload_n X 1 rfl dX0_put_10 ?_
    refine cr_iload_n X 0 rfl dX0_put_11 ?_
    refine cr_callV X (As := [.int r2_1]) (rest := []) (c_X0_removeAt Γ.2.1 E hEK S0 hf G r2_1) ((cr_a2 E hf).at (cr_row S0 f G 2) rfl) rfl 1 gX0_put_X0_removeAt rfl rfl rfl (by decide +kernel) ⟨Nat.le_of_ble_eq_true rfl, Nat.le_of_ble_eq_true rfl⟩ (by decide) rfl rfl (Nat.le_of_ble_eq_true rfl) dX0_put_12 (fun r12_4 => ?_)
    show cr_P Γ E 4 _ 0 0 (cr_us S0 f r12_4) 15 ([(3, .int r2_1), (0, .ref (E.2.1 f 2)), (1, .int p1), (2, .int p2)]) ([]) _
    refine cr_goto X 39 dX0_put_15 rfl ?_
    exact cr_vret X rfl rfl dX0_put_39
theorem c_X0_put_S (l : Launch) (E : cr_E) (hEK : cr_EK E) (S : cr_S) {f : Nat} (hf : f < 8) (p1 : Int32) (p2 : Int32) : cr_M l E yX0_put wsX0_put rm_X0_put [.ref (E.2.1 f 2), .int p1, .int p2] S (cr_vVG S f) (s_X0_put  p1 p2 (S.1 f)) := by
  have h := c_X0_put l E hEK S hf (S.1 f) p1 p2
  rw [cr_us_self] at h
  exact h
theorem k_X1_copyFrom_1 : (Cond.fieldLink RX1 9 "CraneCampaign$Crane" "place" "I") ∈ wsX1_copyFrom := List.mem_of_getElem? (i := 1) (by rfl)
theorem k_X1_copyFrom_2 : (Cond.fieldLink RX1 15 "CraneCampaign$Crane" "hoursLeft" "I") ∈ wsX1_copyFrom := List.mem_of_getElem? (i := 2) (by rfl)
theorem k_X1_copyFrom_3 : (Cond.fieldLink RX1 18 "CraneCampaign$Crane" "goal" "I") ∈ wsX1_copyFrom := List.mem_of_getElem? (i := 3) (by rfl)
theorem k_X1_copyFrom_4 : (Cond.fieldLink RX1 21 "CraneCampaign$Crane" "workDone" "I") ∈ wsX1_copyFrom := List.mem_of_getElem? (i := 4) (by rfl)
theorem k_X1_copyFrom_5 : (Cond.fieldLink RX1 24 "CraneCampaign$Crane" "workedOn" "I") ∈ wsX1_copyFrom := List.mem_of_getElem? (i := 5) (by rfl)
theorem i_X1_copyFrom_X1 : ∀ w ∈ wsX10, w ∈ wsX1_copyFrom := by decide +kernel
abbrev rm_X1_copyFrom : Room := { frames := 0, cells := 0, slots := 0, locals := 0 }
set_option maxHeartbeats 4000000 in
set_option maxRecDepth 100000 in
theorem c_X1_copyFrom (l : Launch) (E : cr_E) (hEK : cr_EK E) (S0 : cr_S) {f : Nat} (hf : f < 8) {g : Nat} (hg : g < 8) (hne : g ≠ f) (G : cr_G) : cr_M l E yX1_copyFrom wsX1_copyFrom rm_X1_copyFrom [.ref (E.2.1 f 10), .ref (E.2.1 g 10)] (cr_us S0 f G) (cr_vVG S0 f) (s_X1_copyFrom (S0.1 g) G) := by
  refine cr_enter (cc := cX1_copyFrom) (nL := 2) (rt := none) hEK (by decide) rfl (Nat.le_of_ble_eq_true rfl) (fun Γ hΓ X => ?_)
  subst hΓ
  have X : cr_X Γ E cX1_copyFrom 2 RX1 wsX1_copyFrom rm_X1_copyFrom none := X
  unfold s_X1_copyFrom
  show cr_P Γ E 2 _ 0 0 (cr_us S0 f G) 0 ([(0, .ref (E.2.1 f 10)), (1, .ref (E.2.1 g 10))]) [] _
  refine cr_aload_n X 0 rfl dX1_copyFrom_0 ?_
  refine cr_aload_n X 1 rfl dX1_copyFrom_1 ?_
  refine cr_get X ((cr_a10 E hg).at (cr_rowo S0 G hne 10) rfl) rfl i_X1_copyFrom_X1 0 (by decide) k_X1_copyFrom_1 rfl dX1_copyFrom_2 ?_
  refine cr_putG X (cr_a10 E hf) 0 rfl rfl rfl i_X1_copyFrom_X1 tyX1 tyX1_ok nmX1 (by decide) k_X1_copyFrom_1 rfl rfl rfl (Nat.le_of_ble_eq_true rfl) dX1_copyFrom_5 (fun G5_1 => ?_)
  refine cr_aload_n X 0 rfl dX1_copyFrom_8 ?_
  refine cr_aload_n X 1 rfl dX1_copyFrom_9 ?_
  refine cr_get X ((cr_a10 E hg).at (cr_rowo S0 G5_1 hne 10) rfl) rfl i_X1_copyFrom_X1 1 (by decide) k_X1_copyFrom_2 rfl dX1_copyFrom_10 ?_
  refine cr_putG X (cr_a10 E hf) 1 rfl rfl rfl i_X1_copyFrom_X1 tyX1 tyX1_ok nmX1 (by decide) k_X1_copyFrom_2 rfl rfl rfl (Nat.le_of_ble_eq_true rfl) dX1_copyFrom_13 (fun G13_2 => ?_)
  refine cr_aload_n X 0 rfl dX1_copyFrom_16 ?_
  refine cr_aload_n X 1 rfl dX1_copyFrom_17 ?_
  refine cr_get X ((cr_a10 E hg).at (cr_rowo S0 G13_2 hne 10) rfl) rfl i_X1_copyFrom_X1 2 (by decide) k_X1_copyFrom_3 rfl dX1_copyFrom_18 ?_
  refine cr_putG X (cr_a10 E hf) 2 rfl rfl rfl i_X1_copyFrom_X1 tyX1 tyX1_ok nmX1 (by decide) k_X1_copyFrom_3 rfl rfl rfl (Nat.le_of_ble_eq_true rfl) dX1_copyFrom_21 (fun G21_3 => ?_)
  refine cr_aload_n X 0 rfl dX1_copyFrom_24 ?_
  refine cr_aload_n X 1 rfl dX1_copyFrom_25 ?_
  refine cr_get X ((cr_a10 E hg).at (cr_rowo S0 G21_3 hne 10) rfl) rfl i_X1_copyFrom_X1 3 (by decide) k_X1_copyFrom_4 rfl dX1_copyFrom_26 ?_
  refine cr_putG X (cr_a10 E hf) 3 rfl rfl rfl i_X1_copyFrom_X1 tyX1 tyX1_ok nmX1 (by decide) k_X1_copyFrom_4 rfl rfl rfl (Nat.le_of_ble_eq_true rfl) dX1_copyFrom_29 (fun G29_4 => ?_)
  refine cr_aload_n X 0 rfl dX1_copyFrom_32 ?_
  refine cr_aload_n X 1 rfl dX1_copyFrom_33 ?_
  refine cr_get X ((cr_a10 E hg).at (cr_rowo S0 G29_4 hne 10) rfl) rfl i_X1_copyFrom_X1 4 (by decide) k_X1_copyFrom_5 rfl dX1_copyFrom_34 ?_
  refine cr_putG X (cr_a10 E hf) 4 rfl rfl rfl i_X1_copyFrom_X1 tyX1 tyX1_ok nmX1 (by decide) k_X1_copyFrom_5 rfl rfl rfl (Nat.le_of_ble_eq_true rfl) dX1_copyFrom_37 (fun G37_5 => ?_)
  exact cr_vret X rfl rfl dX1_copyFrom_40
theorem c_X1_copyFrom_S (l : Launch) (E : cr_E) (hEK : cr_EK E) (S : cr_S) {f : Nat} (hf : f < 8) {g : Nat} (hg : g < 8) (hne : g ≠ f) : cr_M l E yX1_copyFrom wsX1_copyFrom rm_X1_copyFrom [.ref (E.2.1 f 10), .ref (E.2.1 g 10)] S (cr_vVG S f) (s_X1_copyFrom (S.1 g)  (S.1 f)) := by
  have h := c_X1_copyFrom l E hEK S hf hg hne (S.1 f)
  rw [cr_us_self] at h
  exact h
theorem k_X1_driveTo_1 : (Cond.fieldLink RX1 18 "CraneCampaign$Crane" "goal" "I") ∈ wsX1_driveTo := List.mem_of_getElem? (i := 1) (by rfl)
theorem k_X1_driveTo_2 : (Cond.fieldLink RX1 15 "CraneCampaign$Crane" "hoursLeft" "I") ∈ wsX1_driveTo := List.mem_of_getElem? (i := 2) (by rfl)
theorem k_X1_driveTo_3 : (Cond.methodLink RX1 27 Lib.Math.max.name) ∈ wsX1_driveTo := List.mem_of_getElem? (i := 3) (by rfl)
theorem k_X1_driveTo_4 : (Cond.static Lib.Math.max.name) ∈ wsX1_driveTo := List.mem_of_getElem? (i := 4) (by rfl)
theorem k_X1_driveTo_5 : (Cond.initialized "java/lang/Math") ∈ wsX1_driveTo := List.mem_of_getElem? (i := 5) (by rfl)
theorem k_X1_driveTo_6 : (Cond.code Lib.Math.max.name Lib.Math.max.code 2 (some .int)) ∈ wsX1_driveTo := List.mem_of_getElem? (i := 6) (by rfl)
theorem k_X1_driveTo_7 : (Cond.fieldLink RX1 9 "CraneCampaign$Crane" "place" "I") ∈ wsX1_driveTo := List.mem_of_getElem? (i := 7) (by rfl)
theorem i_X1_driveTo_X1 : ∀ w ∈ wsX10, w ∈ wsX1_driveTo := by decide +kernel
abbrev rm_X1_driveTo : Room := { frames := 1, cells := 0, slots := 0, locals := 24 }
set_option maxHeartbeats 4000000 in
set_option maxRecDepth 100000 in
theorem b_X1_driveTo_18 {Γ : cr_C} {E : cr_E} (X : cr_X Γ E cX1_driveTo 4 RX1 wsX1_driveTo rm_X1_driveTo none) (S0 : cr_S) {f : Nat} (hf : f < 8) (x1 : Int32) (x2 : Int32) (y0 : Int32) (y1 : Int32) (G : cr_G) : cr_P Γ E 4 (cr_F Γ E (cr_vVG S0 f)) 0 0 (cr_us S0 f G) 18 ([(0, .ref (E.2.1 f 10)), (1, .int x1), (2, .int x2)]) ([.int y0, .int y1, .ref (E.2.1 f 10)]) (s_X1_driveTo_18 x1 x2 y0 y1 G) := by
  have hEK := X.2.2.2.2.2.2.1
  unfold s_X1_driveTo_18
  refine cr_iconst X (1 : Int32) (by decide) dX1_driveTo_18 ?_
  refine cr_isub X dX1_driveTo_19 ?_
  refine cr_mmax X k_X1_driveTo_3 k_X1_driveTo_4 k_X1_driveTo_5 k_X1_driveTo_6 (by decide) (Nat.le_of_ble_eq_true rfl) (by decide) dX1_driveTo_20 ?_
  refine cr_putG X (cr_a10 E hf) 1 rfl rfl rfl i_X1_driveTo_X1 tyX1 tyX1_ok nmX1 (by decide) k_X1_driveTo_2 rfl rfl rfl (Nat.le_of_ble_eq_true rfl) dX1_driveTo_23 (fun G23_1 => ?_)
  refine cr_aload_n X 0 rfl dX1_driveTo_26 ?_
  refine cr_iload_n X 1 rfl dX1_driveTo_27 ?_
  refine cr_putG X (cr_a10 E hf) 2 rfl rfl rfl i_X1_driveTo_X1 tyX1 tyX1_ok nmX1 (by decide) k_X1_driveTo_1 rfl rfl rfl (Nat.le_of_ble_eq_true rfl) dX1_driveTo_28 (fun G28_2 => ?_)
  refine cr_aload_n X 0 rfl dX1_driveTo_31 ?_
  refine cr_get X ((cr_a10 E hf).at (cr_row S0 f G28_2 10) rfl) rfl i_X1_driveTo_X1 1 (by decide) k_X1_driveTo_2 rfl dX1_driveTo_32 ?_
  refine cr_if_ne X 48 dX1_driveTo_35 rfl ?_ ?_
  · exact cr_vret X rfl rfl dX1_driveTo_48
  · refine cr_aload_n X 0 rfl dX1_driveTo_38 ?_
    refine cr_iload_n X 2 rfl dX1_driveTo_39 ?_
    refine cr_putG X (cr_a10 E hf) 0 rfl rfl rfl i_X1_driveTo_X1 tyX1 tyX1_ok nmX1 (by decide) k_X1_driveTo_7 rfl rfl rfl (Nat.le_of_ble_eq_true rfl) dX1_driveTo_40 (fun G40_3 => ?_)
    refine cr_aload_n X 0 rfl dX1_driveTo_43 ?_
    refine cr_iconst X (-1 : Int32) (by decide) dX1_driveTo_44 ?_
    refine cr_putG X (cr_a10 E hf) 2 rfl rfl rfl i_X1_driveTo_X1 tyX1 tyX1_ok nmX1 (by decide) k_X1_driveTo_1 rfl rfl rfl (Nat.le_of_ble_eq_true rfl) dX1_driveTo_45 (fun G45_4 => ?_)
    exact cr_vret X rfl rfl dX1_driveTo_48
set_option maxHeartbeats 4000000 in
set_option maxRecDepth 100000 in
theorem c_X1_driveTo (l : Launch) (E : cr_E) (hEK : cr_EK E) (S0 : cr_S) {f : Nat} (hf : f < 8) (G : cr_G) (p1 : Int32) (p2 : Int32) (p3 : Int32) : cr_M l E yX1_driveTo wsX1_driveTo rm_X1_driveTo [.ref (E.2.1 f 10), .int p1, .int p2, .int p3] (cr_us S0 f G) (cr_vVG S0 f) (s_X1_driveTo p1 p2 p3 G) := by
  refine cr_enter (cc := cX1_driveTo) (nL := 4) (rt := none) hEK (by decide) rfl (Nat.le_of_ble_eq_true rfl) (fun Γ hΓ X => ?_)
  subst hΓ
  have X : cr_X Γ E cX1_driveTo 4 RX1 wsX1_driveTo rm_X1_driveTo none := X
  unfold s_X1_driveTo
  show cr_P Γ E 4 _ 0 0 (cr_us S0 f G) 0 ([(0, .ref (E.2.1 f 10)), (1, .int p1), (2, .int p2), (3, .int p3)]) [] _
  refine cr_aload_n X 0 rfl dX1_driveTo_0 ?_
  refine cr_iconst X (0 : Int32) (by decide) dX1_driveTo_1 ?_
  refine cr_aload_n X 0 rfl dX1_driveTo_2 ?_
  refine cr_get X ((cr_a10 E hf).at (cr_row S0 f G 10) rfl) rfl i_X1_driveTo_X1 2 (by decide) k_X1_driveTo_1 rfl dX1_driveTo_3 ?_
  refine cr_iload_n X 1 rfl dX1_driveTo_6 ?_
  refine cr_icmp_ne X 17 dX1_driveTo_7 rfl ?_ ?_
  · refine cr_iload_n X 3 rfl dX1_driveTo_17 ?_
    refine cr_sub (lv' := [(0, .ref (E.2.1 f 10)), (1, .int p1), (2, .int p2)]) [0, 1, 2] rfl ?_
    exact b_X1_driveTo_18 X S0 hf p1 p2 p3 ((0 : Int32)) G
  · refine cr_aload_n X 0 rfl dX1_driveTo_10 ?_
    refine cr_get X ((cr_a10 E hf).at (cr_row S0 f G 10) rfl) rfl i_X1_driveTo_X1 1 (by decide) k_X1_driveTo_2 rfl dX1_driveTo_11 ?_
    refine cr_goto X 18 dX1_driveTo_14 rfl ?_
    refine cr_sub (lv' := [(0, .ref (E.2.1 f 10)), (1, .int p1), (2, .int p2)]) [0, 1, 2] rfl ?_
    exact b_X1_driveTo_18 X S0 hf p1 p2 (((G 10) 1)) ((0 : Int32)) G
theorem c_X1_driveTo_S (l : Launch) (E : cr_E) (hEK : cr_EK E) (S : cr_S) {f : Nat} (hf : f < 8) (p1 : Int32) (p2 : Int32) (p3 : Int32) : cr_M l E yX1_driveTo wsX1_driveTo rm_X1_driveTo [.ref (E.2.1 f 10), .int p1, .int p2, .int p3] S (cr_vVG S f) (s_X1_driveTo  p1 p2 p3 (S.1 f)) := by
  have h := c_X1_driveTo l E hEK S hf (S.1 f) p1 p2 p3
  rw [cr_us_self] at h
  exact h
theorem k_X1_forgetWork_1 : (Cond.fieldLink RX1 24 "CraneCampaign$Crane" "workedOn" "I") ∈ wsX1_forgetWork := List.mem_of_getElem? (i := 1) (by rfl)
theorem k_X1_forgetWork_2 : (Cond.fieldLink RX1 21 "CraneCampaign$Crane" "workDone" "I") ∈ wsX1_forgetWork := List.mem_of_getElem? (i := 2) (by rfl)
theorem i_X1_forgetWork_X1 : ∀ w ∈ wsX10, w ∈ wsX1_forgetWork := by decide +kernel
abbrev rm_X1_forgetWork : Room := { frames := 0, cells := 0, slots := 0, locals := 0 }
set_option maxHeartbeats 4000000 in
set_option maxRecDepth 100000 in
theorem c_X1_forgetWork (l : Launch) (E : cr_E) (hEK : cr_EK E) (S0 : cr_S) {f : Nat} (hf : f < 8) (G : cr_G) : cr_M l E yX1_forgetWork wsX1_forgetWork rm_X1_forgetWork [.ref (E.2.1 f 10)] (cr_us S0 f G) (cr_vVG S0 f) (s_X1_forgetWork G) := by
  refine cr_enter (cc := cX1_forgetWork) (nL := 1) (rt := none) hEK (by decide) rfl (Nat.le_of_ble_eq_true rfl) (fun Γ hΓ X => ?_)
  subst hΓ
  have X : cr_X Γ E cX1_forgetWork 1 RX1 wsX1_forgetWork rm_X1_forgetWork none := X
  unfold s_X1_forgetWork
  show cr_P Γ E 1 _ 0 0 (cr_us S0 f G) 0 ([(0, .ref (E.2.1 f 10))]) [] _
  refine cr_aload_n X 0 rfl dX1_forgetWork_0 ?_
  refine cr_iconst X (-1 : Int32) (by decide) dX1_forgetWork_1 ?_
  refine cr_putG X (cr_a10 E hf) 4 rfl rfl rfl i_X1_forgetWork_X1 tyX1 tyX1_ok nmX1 (by decide) k_X1_forgetWork_1 rfl rfl rfl (Nat.le_of_ble_eq_true rfl) dX1_forgetWork_2 (fun G2_1 => ?_)
  refine cr_aload_n X 0 rfl dX1_forgetWork_5 ?_
  refine cr_iconst X (0 : Int32) (by decide) dX1_forgetWork_6 ?_
  refine cr_putG X (cr_a10 E hf) 3 rfl rfl rfl i_X1_forgetWork_X1 tyX1 tyX1_ok nmX1 (by decide) k_X1_forgetWork_2 rfl rfl rfl (Nat.le_of_ble_eq_true rfl) dX1_forgetWork_7 (fun G7_2 => ?_)
  exact cr_vret X rfl rfl dX1_forgetWork_10
theorem c_X1_forgetWork_S (l : Launch) (E : cr_E) (hEK : cr_EK E) (S : cr_S) {f : Nat} (hf : f < 8) : cr_M l E yX1_forgetWork wsX1_forgetWork rm_X1_forgetWork [.ref (E.2.1 f 10)] S (cr_vVG S f) (s_X1_forgetWork   (S.1 f)) := by
  have h := c_X1_forgetWork l E hEK S hf (S.1 f)
  rw [cr_us_self] at h
  exact h
theorem k_X1_isOnWay_1 : (Cond.fieldLink RX1 18 "CraneCampaign$Crane" "goal" "I") ∈ wsX1_isOnWay := List.mem_of_getElem? (i := 1) (by rfl)
theorem i_X1_isOnWay_X1 : ∀ w ∈ wsX10, w ∈ wsX1_isOnWay := by decide +kernel
abbrev rm_X1_isOnWay : Room := { frames := 0, cells := 0, slots := 0, locals := 0 }
set_option maxHeartbeats 4000000 in
set_option maxRecDepth 100000 in
theorem c_X1_isOnWay (l : Launch) (E : cr_E) (hEK : cr_EK E) (S0 : cr_S) {f : Nat} (hf : f < 8) (G : cr_G) : cr_M l E yX1_isOnWay wsX1_isOnWay rm_X1_isOnWay [.ref (E.2.1 f 10)] (cr_us S0 f G) (cr_vB (cr_us S0 f G)) (s_X1_isOnWay G) := by
  refine cr_enter (cc := cX1_isOnWay) (nL := 1) (rt := (some .boolean)) hEK (by decide) rfl (Nat.le_of_ble_eq_true rfl) (fun Γ hΓ X => ?_)
  subst hΓ
  have X : cr_X Γ E cX1_isOnWay 1 RX1 wsX1_isOnWay rm_X1_isOnWay (some .boolean) := X
  unfold s_X1_isOnWay
  show cr_P Γ E 1 _ 0 0 (cr_us S0 f G) 0 ([(0, .ref (E.2.1 f 10))]) [] _
  refine cr_aload_n X 0 rfl dX1_isOnWay_0 ?_
  refine cr_get X ((cr_a10 E hf).at (cr_row S0 f G 10) rfl) rfl i_X1_isOnWay_X1 2 (by decide) k_X1_isOnWay_1 rfl dX1_isOnWay_1 ?_
  refine cr_iconst X (-1 : Int32) (by decide) dX1_isOnWay_4 ?_
  refine cr_icmp_eq X 12 dX1_isOnWay_5 rfl ?_ ?_
  · refine cr_iconst X (0 : Int32) (by decide) dX1_isOnWay_12 ?_
    exact cr_zret X false rfl rfl rfl dX1_isOnWay_13
  · refine cr_iconst X (1 : Int32) (by decide) dX1_isOnWay_8 ?_
    refine cr_goto X 13 dX1_isOnWay_9 rfl ?_
    exact cr_zret X true rfl rfl rfl dX1_isOnWay_13
theorem c_X1_isOnWay_S (l : Launch) (E : cr_E) (hEK : cr_EK E) (S : cr_S) {f : Nat} (hf : f < 8) : cr_M l E yX1_isOnWay wsX1_isOnWay rm_X1_isOnWay [.ref (E.2.1 f 10)] S (cr_vB S) (s_X1_isOnWay (S.1 f)) := by
  have h := c_X1_isOnWay l E hEK S hf (S.1 f)
  rw [cr_us_self] at h
  exact h
theorem k_X1_workAnHourOn_1 : (Cond.fieldLink RX1 24 "CraneCampaign$Crane" "workedOn" "I") ∈ wsX1_workAnHourOn := List.mem_of_getElem? (i := 1) (by rfl)
theorem k_X1_workAnHourOn_2 : (Cond.fieldLink RX1 21 "CraneCampaign$Crane" "workDone" "I") ∈ wsX1_workAnHourOn := List.mem_of_getElem? (i := 2) (by rfl)
theorem i_X1_workAnHourOn_X1 : ∀ w ∈ wsX10, w ∈ wsX1_workAnHourOn := by decide +kernel
abbrev rm_X1_workAnHourOn : Room := { frames := 0, cells := 0, slots := 0, locals := 0 }
set_option maxHeartbeats 4000000 in
set_option maxRecDepth 100000 in
theorem c_X1_workAnHourOn (l : Launch) (E : cr_E) (hEK : cr_EK E) (S0 : cr_S) {f : Nat} (hf : f < 8) (G : cr_G) (p1 : Int32) : cr_M l E yX1_workAnHourOn wsX1_workAnHourOn rm_X1_workAnHourOn [.ref (E.2.1 f 10), .int p1] (cr_us S0 f G) (cr_vVG S0 f) (s_X1_workAnHourOn p1 G) := by
  refine cr_enter (cc := cX1_workAnHourOn) (nL := 2) (rt := none) hEK (by decide) rfl (Nat.le_of_ble_eq_true rfl) (fun Γ hΓ X => ?_)
  subst hΓ
  have X : cr_X Γ E cX1_workAnHourOn 2 RX1 wsX1_workAnHourOn rm_X1_workAnHourOn none := X
  unfold s_X1_workAnHourOn
  show cr_P Γ E 2 _ 0 0 (cr_us S0 f G) 0 ([(0, .ref (E.2.1 f 10)), (1, .int p1)]) [] _
  refine cr_aload_n X 0 rfl dX1_workAnHourOn_0 ?_
  refine cr_iload_n X 1 rfl dX1_workAnHourOn_1 ?_
  refine cr_putG X (cr_a10 E hf) 4 rfl rfl rfl i_X1_workAnHourOn_X1 tyX1 tyX1_ok nmX1 (by decide) k_X1_workAnHourOn_1 rfl rfl rfl (Nat.le_of_ble_eq_true rfl) dX1_workAnHourOn_2 (fun G2_1 => ?_)
  refine cr_aload_n X 0 rfl dX1_workAnHourOn_5 ?_
  refine cr_dup X rfl dX1_workAnHourOn_6 ?_
  refine cr_get X ((cr_a10 E hf).at (cr_row S0 f G2_1 10) rfl) rfl i_X1_workAnHourOn_X1 3 (by decide) k_X1_workAnHourOn_2 rfl dX1_workAnHourOn_7 ?_
  refine cr_iconst X (1 : Int32) (by decide) dX1_workAnHourOn_10 ?_
  refine cr_iadd X dX1_workAnHourOn_11 ?_
  refine cr_putG X (cr_a10 E hf) 3 rfl rfl rfl i_X1_workAnHourOn_X1 tyX1 tyX1_ok nmX1 (by decide) k_X1_workAnHourOn_2 rfl rfl rfl (Nat.le_of_ble_eq_true rfl) dX1_workAnHourOn_12 (fun G12_2 => ?_)
  exact cr_vret X rfl rfl dX1_workAnHourOn_15
theorem c_X1_workAnHourOn_S (l : Launch) (E : cr_E) (hEK : cr_EK E) (S : cr_S) {f : Nat} (hf : f < 8) (p1 : Int32) : cr_M l E yX1_workAnHourOn wsX1_workAnHourOn rm_X1_workAnHourOn [.ref (E.2.1 f 10), .int p1] S (cr_vVG S f) (s_X1_workAnHourOn  p1 (S.1 f)) := by
  have h := c_X1_workAnHourOn l E hEK S hf (S.1 f) p1
  rw [cr_us_self] at h
  exact h
theorem k_X1_workOn_1 : (Cond.fieldLink RX1 24 "CraneCampaign$Crane" "workedOn" "I") ∈ wsX1_workOn := List.mem_of_getElem? (i := 1) (by rfl)
theorem k_X1_workOn_2 : (Cond.fieldLink RX1 21 "CraneCampaign$Crane" "workDone" "I") ∈ wsX1_workOn := List.mem_of_getElem? (i := 2) (by rfl)
theorem i_X1_workOn_X1 : ∀ w ∈ wsX10, w ∈ wsX1_workOn := by decide +kernel
abbrev rm_X1_workOn : Room := { frames := 0, cells := 0, slots := 0, locals := 0 }
set_option maxHeartbeats 4000000 in
set_option maxRecDepth 100000 in
theorem c_X1_workOn (l : Launch) (E : cr_E) (hEK : cr_EK E) (S0 : cr_S) {f : Nat} (hf : f < 8) (G : cr_G) (p1 : Int32) : cr_M l E yX1_workOn wsX1_workOn rm_X1_workOn [.ref (E.2.1 f 10), .int p1] (cr_us S0 f G) (cr_vI (cr_us S0 f G)) (s_X1_workOn G p1) := by
  refine cr_enter (cc := cX1_workOn) (nL := 2) (rt := (some .int)) hEK (by decide) rfl (Nat.le_of_ble_eq_true rfl) (fun Γ hΓ X => ?_)
  subst hΓ
  have X : cr_X Γ E cX1_workOn 2 RX1 wsX1_workOn rm_X1_workOn (some .int) := X
  unfold s_X1_workOn
  show cr_P Γ E 2 _ 0 0 (cr_us S0 f G) 0 ([(0, .ref (E.2.1 f 10)), (1, .int p1)]) [] _
  refine cr_iload_n X 1 rfl dX1_workOn_0 ?_
  refine cr_aload_n X 0 rfl dX1_workOn_1 ?_
  refine cr_get X ((cr_a10 E hf).at (cr_row S0 f G 10) rfl) rfl i_X1_workOn_X1 4 (by decide) k_X1_workOn_1 rfl dX1_workOn_2 ?_
  refine cr_icmp_ne X 15 dX1_workOn_5 rfl ?_ ?_
  · refine cr_iconst X (0 : Int32) (by decide) dX1_workOn_15 ?_
    exact cr_iret X rfl rfl dX1_workOn_16
  · refine cr_aload_n X 0 rfl dX1_workOn_8 ?_
    refine cr_get X ((cr_a10 E hf).at (cr_row S0 f G 10) rfl) rfl i_X1_workOn_X1 3 (by decide) k_X1_workOn_2 rfl dX1_workOn_9 ?_
    refine cr_goto X 16 dX1_workOn_12 rfl ?_
    exact cr_iret X rfl rfl dX1_workOn_16
theorem c_X1_workOn_S (l : Launch) (E : cr_E) (hEK : cr_EK E) (S : cr_S) {f : Nat} (hf : f < 8) (p1 : Int32) : cr_M l E yX1_workOn wsX1_workOn rm_X1_workOn [.ref (E.2.1 f 10), .int p1] S (cr_vI S) (s_X1_workOn (S.1 f) p1) := by
  have h := c_X1_workOn l E hEK S hf (S.1 f) p1
  rw [cr_us_self] at h
  exact h
theorem k_X3_copyFrom_1 : (Cond.fieldLink RX3 9 "CraneCampaign$Harbour" "turbine" "[I") ∈ wsX3_copyFrom := List.mem_of_getElem? (i := 1) (by rfl)
theorem k_X3_copyFrom_2 : (Cond.methodLink RX3 22 arraycopyName) ∈ wsX3_copyFrom := List.mem_of_getElem? (i := 2) (by rfl)
theorem k_X3_copyFrom_3 : (Cond.native arraycopyName) ∈ wsX3_copyFrom := List.mem_of_getElem? (i := 3) (by rfl)
theorem k_X3_copyFrom_4 : (Cond.static arraycopyName) ∈ wsX3_copyFrom := List.mem_of_getElem? (i := 4) (by rfl)
theorem k_X3_copyFrom_5 : (Cond.initialized "java/lang/System") ∈ wsX3_copyFrom := List.mem_of_getElem? (i := 5) (by rfl)
theorem k_X3_copyFrom_6 : (Cond.fieldLink RX3 15 "CraneCampaign$Harbour" "weight" "[I") ∈ wsX3_copyFrom := List.mem_of_getElem? (i := 6) (by rfl)
theorem k_X3_copyFrom_7 : (Cond.fieldLink RX3 18 "CraneCampaign$Harbour" "count" "I") ∈ wsX3_copyFrom := List.mem_of_getElem? (i := 7) (by rfl)
theorem i_X3_copyFrom_X3 : ∀ w ∈ wsX30, w ∈ wsX3_copyFrom := by decide +kernel
abbrev rm_X3_copyFrom : Room := { frames := 1, cells := 0, slots := 0, locals := 40 }
set_option maxHeartbeats 4000000 in
set_option maxRecDepth 100000 in
theorem c_X3_copyFrom (l : Launch) (E : cr_E) (hEK : cr_EK E) (S0 : cr_S) {f : Nat} (hf : f < 8) {g : Nat} (hg : g < 8) (hne : g ≠ f) (G : cr_G) : cr_M l E yX3_copyFrom wsX3_copyFrom rm_X3_copyFrom [.ref (E.2.1 f 5), .ref (E.2.1 g 5)] (cr_us S0 f G) (cr_vVG S0 f) (s_X3_copyFrom (S0.1 g) G) := by
  refine cr_enter (cc := cX3_copyFrom) (nL := 2) (rt := none) hEK (by decide) rfl (Nat.le_of_ble_eq_true rfl) (fun Γ hΓ X => ?_)
  subst hΓ
  have X : cr_X Γ E cX3_copyFrom 2 RX3 wsX3_copyFrom rm_X3_copyFrom none := X
  unfold s_X3_copyFrom
  show cr_P Γ E 2 _ 0 0 (cr_us S0 f G) 0 ([(0, .ref (E.2.1 f 5)), (1, .ref (E.2.1 g 5))]) [] _
  refine cr_aload_n X 1 rfl dX3_copyFrom_0 ?_
  refine cr_get X ((cr_a5 E hg).at (cr_rowo S0 G hne 5) rfl) rfl i_X3_copyFrom_X3 0 (by decide) k_X3_copyFrom_1 rfl dX3_copyFrom_1 ?_
  refine cr_iconst X (0 : Int32) (by decide) dX3_copyFrom_4 ?_
  refine cr_aload_n X 0 rfl dX3_copyFrom_5 ?_
  refine cr_get X ((cr_a5 E hf).at (cr_row S0 f G 5) rfl) rfl i_X3_copyFrom_X3 0 (by decide) k_X3_copyFrom_1 rfl dX3_copyFrom_6 ?_
  refine cr_iconst X (0 : Int32) (by decide) dX3_copyFrom_9 ?_
  refine cr_bipush X (10 : Int32) (by decide) dX3_copyFrom_10 ?_
  refine cr_acopyG X ((S0.1 g) 6) ((cr_a6 E hg).at (cr_rowo S0 G hne 6) rfl) (cr_a6 E hf) (fun _ _ => rfl) 0 0 10 (by decide) (by decide) k_X3_copyFrom_2 k_X3_copyFrom_3 k_X3_copyFrom_4 k_X3_copyFrom_5 (by decide) (by decide +kernel) dX3_copyFrom_12 (fun G12_1 => ?_)
  refine cr_aload_n X 1 rfl dX3_copyFrom_15 ?_
  refine cr_get X ((cr_a5 E hg).at (cr_rowo S0 G12_1 hne 5) rfl) rfl i_X3_copyFrom_X3 1 (by decide) k_X3_copyFrom_6 rfl dX3_copyFrom_16 ?_
  refine cr_iconst X (0 : Int32) (by decide) dX3_copyFrom_19 ?_
  refine cr_aload_n X 0 rfl dX3_copyFrom_20 ?_
  refine cr_get X ((cr_a5 E hf).at (cr_row S0 f G12_1 5) rfl) rfl i_X3_copyFrom_X3 1 (by decide) k_X3_copyFrom_6 rfl dX3_copyFrom_21 ?_
  refine cr_iconst X (0 : Int32) (by decide) dX3_copyFrom_24 ?_
  refine cr_bipush X (10 : Int32) (by decide) dX3_copyFrom_25 ?_
  refine cr_acopyG X ((S0.1 g) 7) ((cr_a7 E hg).at (cr_rowo S0 G12_1 hne 7) rfl) (cr_a7 E hf) (fun _ _ => rfl) 0 0 10 (by decide) (by decide) k_X3_copyFrom_2 k_X3_copyFrom_3 k_X3_copyFrom_4 k_X3_copyFrom_5 (by decide) (by decide +kernel) dX3_copyFrom_27 (fun G27_2 => ?_)
  refine cr_aload_n X 0 rfl dX3_copyFrom_30 ?_
  refine cr_aload_n X 1 rfl dX3_copyFrom_31 ?_
  refine cr_get X ((cr_a5 E hg).at (cr_rowo S0 G27_2 hne 5) rfl) rfl i_X3_copyFrom_X3 2 (by decide) k_X3_copyFrom_7 rfl dX3_copyFrom_32 ?_
  refine cr_putG X (cr_a5 E hf) 2 rfl rfl rfl i_X3_copyFrom_X3 tyX3 tyX3_ok nmX3 (by decide) k_X3_copyFrom_7 rfl rfl rfl (Nat.le_of_ble_eq_true rfl) dX3_copyFrom_35 (fun G35_3 => ?_)
  exact cr_vret X rfl rfl dX3_copyFrom_38
theorem c_X3_copyFrom_S (l : Launch) (E : cr_E) (hEK : cr_EK E) (S : cr_S) {f : Nat} (hf : f < 8) {g : Nat} (hg : g < 8) (hne : g ≠ f) : cr_M l E yX3_copyFrom wsX3_copyFrom rm_X3_copyFrom [.ref (E.2.1 f 5), .ref (E.2.1 g 5)] S (cr_vVG S f) (s_X3_copyFrom (S.1 g)  (S.1 f)) := by
  have h := c_X3_copyFrom l E hEK S hf hg hne (S.1 f)
  rw [cr_us_self] at h
  exact h
theorem k_X3_isFull_1 : (Cond.fieldLink RX3 18 "CraneCampaign$Harbour" "count" "I") ∈ wsX3_isFull := List.mem_of_getElem? (i := 1) (by rfl)
theorem i_X3_isFull_X3 : ∀ w ∈ wsX30, w ∈ wsX3_isFull := by decide +kernel
abbrev rm_X3_isFull : Room := { frames := 0, cells := 0, slots := 0, locals := 0 }
set_option maxHeartbeats 4000000 in
set_option maxRecDepth 100000 in
theorem c_X3_isFull (l : Launch) (E : cr_E) (hEK : cr_EK E) (S0 : cr_S) {f : Nat} (hf : f < 8) (G : cr_G) : cr_M l E yX3_isFull wsX3_isFull rm_X3_isFull [.ref (E.2.1 f 5)] (cr_us S0 f G) (cr_vB (cr_us S0 f G)) (s_X3_isFull G) := by
  refine cr_enter (cc := cX3_isFull) (nL := 1) (rt := (some .boolean)) hEK (by decide) rfl (Nat.le_of_ble_eq_true rfl) (fun Γ hΓ X => ?_)
  subst hΓ
  have X : cr_X Γ E cX3_isFull 1 RX3 wsX3_isFull rm_X3_isFull (some .boolean) := X
  unfold s_X3_isFull
  show cr_P Γ E 1 _ 0 0 (cr_us S0 f G) 0 ([(0, .ref (E.2.1 f 5))]) [] _
  refine cr_aload_n X 0 rfl dX3_isFull_0 ?_
  refine cr_get X ((cr_a5 E hf).at (cr_row S0 f G 5) rfl) rfl i_X3_isFull_X3 2 (by decide) k_X3_isFull_1 rfl dX3_isFull_1 ?_
  refine cr_bipush X (10 : Int32) (by decide) dX3_isFull_4 ?_
  refine cr_icmp_lt X 13 dX3_isFull_6 rfl ?_ ?_
  · refine cr_iconst X (0 : Int32) (by decide) dX3_isFull_13 ?_
    exact cr_zret X false rfl rfl rfl dX3_isFull_14
  · refine cr_iconst X (1 : Int32) (by decide) dX3_isFull_9 ?_
    refine cr_goto X 14 dX3_isFull_10 rfl ?_
    exact cr_zret X true rfl rfl rfl dX3_isFull_14
theorem c_X3_isFull_S (l : Launch) (E : cr_E) (hEK : cr_EK E) (S : cr_S) {f : Nat} (hf : f < 8) : cr_M l E yX3_isFull wsX3_isFull rm_X3_isFull [.ref (E.2.1 f 5)] S (cr_vB S) (s_X3_isFull (S.1 f)) := by
  have h := c_X3_isFull l E hEK S hf (S.1 f)
  rw [cr_us_self] at h
  exact h
theorem k_X3_removeAt_1 : (Cond.fieldLink RX3 18 "CraneCampaign$Harbour" "count" "I") ∈ wsX3_removeAt := List.mem_of_getElem? (i := 1) (by rfl)
theorem k_X3_removeAt_2 : (Cond.fieldLink RX3 9 "CraneCampaign$Harbour" "turbine" "[I") ∈ wsX3_removeAt := List.mem_of_getElem? (i := 2) (by rfl)
theorem k_X3_removeAt_3 : (Cond.fieldLink RX3 15 "CraneCampaign$Harbour" "weight" "[I") ∈ wsX3_removeAt := List.mem_of_getElem? (i := 3) (by rfl)
theorem i_X3_removeAt_X3 : ∀ w ∈ wsX30, w ∈ wsX3_removeAt := by decide +kernel
abbrev rm_X3_removeAt : Room := { frames := 0, cells := 0, slots := 0, locals := 0 }
set_option maxHeartbeats 4000000 in
set_option maxRecDepth 100000 in
theorem b_X3_removeAt_25 {Γ : cr_C} {E : cr_E} (X : cr_X Γ E cX3_removeAt 3 RX3 wsX3_removeAt rm_X3_removeAt none) (S0 : cr_S) {f : Nat} (hf : f < 8) : ∀ (n : Nat) (x2 : Int32) (G : cr_G), cr_P Γ E 3 (cr_F Γ E (cr_vVG S0 f)) 0 0 (cr_us S0 f G) 25 ([(0, .ref (E.2.1 f 5)), (2, .int x2)]) ([]) (s_X3_removeAt_25 n x2 G) := by
  have hEK := X.2.2.2.2.2.2.1
  intro n
  induction n with
  | zero => intro x2 G; exact cr_none
  | succ n ih =>
    intro x2 G
    rw [s_X3_removeAt_25]
    refine cr_iload_n X 1 rfl dX3_removeAt_25 ?_
    refine cr_aload_n X 0 rfl dX3_removeAt_26 ?_
    refine cr_get X ((cr_a5 E hf).at (cr_row S0 f G 5) rfl) rfl i_X3_removeAt_X3 2 (by decide) k_X3_removeAt_1 rfl dX3_removeAt_27 ?_
    refine cr_icmp_ge X 67 dX3_removeAt_30 rfl ?_ ?_
    · exact cr_vret X rfl rfl dX3_removeAt_67
    · refine cr_aload_n X 0 rfl dX3_removeAt_33 ?_
      refine cr_get X ((cr_a5 E hf).at (cr_row S0 f G 5) rfl) rfl i_X3_removeAt_X3 0 (by decide) k_X3_removeAt_2 rfl dX3_removeAt_34 ?_
      refine cr_iload_n X 1 rfl dX3_removeAt_37 ?_
      refine cr_aload_n X 0 rfl dX3_removeAt_38 ?_
      refine cr_get X ((cr_a5 E hf).at (cr_row S0 f G 5) rfl) rfl i_X3_removeAt_X3 0 (by decide) k_X3_removeAt_2 rfl dX3_removeAt_39 ?_
      refine cr_iload_n X 1 rfl dX3_removeAt_42 ?_
      refine cr_iconst X (1 : Int32) (by decide) dX3_removeAt_43 ?_
      refine cr_iadd X dX3_removeAt_44 ?_
      refine cr_iald X ((cr_a6 E hf).at (cr_row S0 f G 6) rfl) dX3_removeAt_45 ?_
      refine cr_iastG X (cr_a6 E hf) (fun _ _ => rfl) dX3_removeAt_46 (fun G46_2 => ?_)
      refine cr_aload_n X 0 rfl dX3_removeAt_47 ?_
      refine cr_get X ((cr_a5 E hf).at (cr_row S0 f G46_2 5) rfl) rfl i_X3_removeAt_X3 1 (by decide) k_X3_removeAt_3 rfl dX3_removeAt_48 ?_
      refine cr_iload_n X 1 rfl dX3_removeAt_51 ?_
      refine cr_aload_n X 0 rfl dX3_removeAt_52 ?_
      refine cr_get X ((cr_a5 E hf).at (cr_row S0 f G46_2 5) rfl) rfl i_X3_removeAt_X3 1 (by decide) k_X3_removeAt_3 rfl dX3_removeAt_53 ?_
      refine cr_iload_n X 1 rfl dX3_removeAt_56 ?_
      refine cr_iconst X (1 : Int32) (by decide) dX3_removeAt_57 ?_
      refine cr_iadd X dX3_removeAt_58 ?_
      refine cr_iald X ((cr_a7 E hf).at (cr_row S0 f G46_2 7) rfl) dX3_removeAt_59 ?_
      refine cr_iastG X (cr_a7 E hf) (fun _ _ => rfl) dX3_removeAt_60 (fun G60_3 => ?_)
      refine cr_iinc X (x2 + 1) (fun v61_4 => [(2, .int v61_4), (0, .ref (E.2.1 f 5))]) 1 rfl rfl (fun _ => rfl) (by decide) dX3_removeAt_61 (fun v61_4 => ?_)
      refine cr_goto X 25 dX3_removeAt_64 rfl ?_
      refine cr_sub (lv' := [(0, .ref (E.2.1 f 5)), (2, .int v61_4)]) [1, 0] rfl ?_
      exact ih v61_4 G60_3
set_option maxHeartbeats 4000000 in
set_option maxRecDepth 100000 in
theorem c_X3_removeAt (l : Launch) (E : cr_E) (hEK : cr_EK E) (S0 : cr_S) {f : Nat} (hf : f < 8) (G : cr_G) (p1 : Int32) : cr_M l E yX3_removeAt wsX3_removeAt rm_X3_removeAt [.ref (E.2.1 f 5), .int p1] (cr_us S0 f G) (cr_vVG S0 f) (s_X3_removeAt p1 G) := by
  refine cr_enter (cc := cX3_removeAt) (nL := 3) (rt := none) hEK (by decide) rfl (Nat.le_of_ble_eq_true rfl) (fun Γ hΓ X => ?_)
  subst hΓ
  have X : cr_X Γ E cX3_removeAt 3 RX3 wsX3_removeAt rm_X3_removeAt none := X
  unfold s_X3_removeAt
  show cr_P Γ E 3 _ 0 0 (cr_us S0 f G) 0 ([(0, .ref (E.2.1 f 5)), (1, .int p1)]) [] _
  refine cr_iload_n X 1 rfl dX3_removeAt_0 ?_
  refine cr_if_lt X 12 dX3_removeAt_1 rfl ?_ ?_
  · exact cr_vret X rfl rfl dX3_removeAt_12
  · refine cr_iload_n X 1 rfl dX3_removeAt_4 ?_
    refine cr_aload_n X 0 rfl dX3_removeAt_5 ?_
    refine cr_get X ((cr_a5 E hf).at (cr_row S0 f G 5) rfl) rfl i_X3_removeAt_X3 2 (by decide) k_X3_removeAt_1 rfl dX3_removeAt_6 ?_
    refine cr_icmp_lt X 13 dX3_removeAt_9 rfl ?_ ?_
    · refine cr_aload_n X 0 rfl dX3_removeAt_13 ?_
      refine cr_dup X rfl dX3_removeAt_14 ?_
      refine cr_get X ((cr_a5 E hf).at (cr_row S0 f G 5) rfl) rfl i_X3_removeAt_X3 2 (by decide) k_X3_removeAt_1 rfl dX3_removeAt_15 ?_
      refine cr_iconst X (1 : Int32) (by decide) dX3_removeAt_18 ?_
      refine cr_isub X dX3_removeAt_19 ?_
      refine cr_putG X (cr_a5 E hf) 2 rfl rfl rfl i_X3_removeAt_X3 tyX3 tyX3_ok nmX3 (by decide) k_X3_removeAt_1 rfl rfl rfl (Nat.le_of_ble_eq_true rfl) dX3_removeAt_20 (fun G20_1 => ?_)
      refine cr_iload_n X 1 rfl dX3_removeAt_23 ?_
      refine cr_istore_n X ([(2, .int p1), (0, .ref (E.2.1 f 5)), (1, .int p1)]) rfl (by decide) dX3_removeAt_24 ?_
      refine cr_sub (lv' := [(0, .ref (E.2.1 f 5)), (2, .int p1)]) [1, 0] rfl ?_
      exact b_X3_removeAt_25 X S0 hf 1200 p1 G20_1
    · exact cr_vret X rfl rfl dX3_removeAt_12
theorem c_X3_removeAt_S (l : Launch) (E : cr_E) (hEK : cr_EK E) (S : cr_S) {f : Nat} (hf : f < 8) (p1 : Int32) : cr_M l E yX3_removeAt wsX3_removeAt rm_X3_removeAt [.ref (E.2.1 f 5), .int p1] S (cr_vVG S f) (s_X3_removeAt  p1 (S.1 f)) := by
  have h := c_X3_removeAt l E hEK S hf (S.1 f) p1
  rw [cr_us_self] at h
  exact h
theorem k_X3_take_1 : (Cond.fieldLink RX3 9 "CraneCampaign$Harbour" "turbine" "[I") ∈ wsX3_take := List.mem_of_getElem? (i := 1) (by rfl)
theorem k_X3_take_2 : (Cond.fieldLink RX3 18 "CraneCampaign$Harbour" "count" "I") ∈ wsX3_take := List.mem_of_getElem? (i := 2) (by rfl)
theorem k_X3_take_3 : (Cond.fieldLink RX3 15 "CraneCampaign$Harbour" "weight" "[I") ∈ wsX3_take := List.mem_of_getElem? (i := 3) (by rfl)
theorem i_X3_take_X3 : ∀ w ∈ wsX30, w ∈ wsX3_take := by decide +kernel
abbrev rm_X3_take : Room := { frames := 1, cells := 0, slots := 0, locals := 20 }
set_option maxHeartbeats 4000000 in
set_option maxRecDepth 100000 in
theorem c_X3_take (l : Launch) (E : cr_E) (hEK : cr_EK E) (S0 : cr_S) {f : Nat} (hf : f < 8) (G : cr_G) (p1 : Int32) (p2 : Int32) : cr_M l E yX3_take wsX3_take rm_X3_take [.ref (E.2.1 f 5), .int p1, .int p2] (cr_us S0 f G) (cr_vVG S0 f) (s_X3_take p1 p2 G) := by
  refine cr_enter (cc := cX3_take) (nL := 3) (rt := none) hEK (by decide) rfl (Nat.le_of_ble_eq_true rfl) (fun Γ hΓ X => ?_)
  subst hΓ
  have X : cr_X Γ E cX3_take 3 RX3 wsX3_take rm_X3_take none := X
  unfold s_X3_take
  show cr_P Γ E 3 _ 0 0 (cr_us S0 f G) 0 ([(0, .ref (E.2.1 f 5)), (1, .int p1), (2, .int p2)]) [] _
  refine cr_aload_n X 0 rfl dX3_take_0 ?_
  refine cr_callV X (As := []) (rest := []) (c_X3_isFull Γ.2.1 E hEK S0 hf G) ((cr_a5 E hf).at (cr_row S0 f G 5) rfl) rfl 0 gX3_take_X3_isFull rfl rfl rfl (by decide +kernel) ⟨Nat.le_of_ble_eq_true rfl, Nat.le_of_ble_eq_true rfl⟩ (by decide) rfl rfl (Nat.le_of_ble_eq_true rfl) dX3_take_1 (fun r1_1 => ?_)
  show cr_P Γ E 3 _ 0 0 (cr_us S0 f G) 4 ([(0, .ref (E.2.1 f 5)), (1, .int p1), (2, .int p2)]) ([.int (cr_b r1_1)]) _
  refine cr_ifb_eq X 8 dX3_take_4 rfl ?_ ?_
  · refine cr_aload_n X 0 rfl dX3_take_8 ?_
    refine cr_get X ((cr_a5 E hf).at (cr_row S0 f G 5) rfl) rfl i_X3_take_X3 0 (by decide) k_X3_take_1 rfl dX3_take_9 ?_
    refine cr_aload_n X 0 rfl dX3_take_12 ?_
    refine cr_get X ((cr_a5 E hf).at (cr_row S0 f G 5) rfl) rfl i_X3_take_X3 2 (by decide) k_X3_take_2 rfl dX3_take_13 ?_
    refine cr_iload_n X 1 rfl dX3_take_16 ?_
    refine cr_iastG X (cr_a6 E hf) (fun _ _ => rfl) dX3_take_17 (fun G17_2 => ?_)
    refine cr_aload_n X 0 rfl dX3_take_18 ?_
    refine cr_get X ((cr_a5 E hf).at (cr_row S0 f G17_2 5) rfl) rfl i_X3_take_X3 1 (by decide) k_X3_take_3 rfl dX3_take_19 ?_
    refine cr_aload_n X 0 rfl dX3_take_22 ?_
    refine cr_get X ((cr_a5 E hf).at (cr_row S0 f G17_2 5) rfl) rfl i_X3_take_X3 2 (by decide) k_X3_take_2 rfl dX3_take_23 ?_
    refine cr_iload_n X 2 rfl dX3_take_26 ?_
    refine cr_iastG X (cr_a7 E hf) (fun _ _ => rfl) dX3_take_27 (fun G27_3 => ?_)
    refine cr_aload_n X 0 rfl dX3_take_28 ?_
    refine cr_dup X rfl dX3_take_29 ?_
    refine cr_get X ((cr_a5 E hf).at (cr_row S0 f G27_3 5) rfl) rfl i_X3_take_X3 2 (by decide) k_X3_take_2 rfl dX3_take_30 ?_
    refine cr_iconst X (1 : Int32) (by decide) dX3_take_33 ?_
    refine cr_iadd X dX3_take_34 ?_
    refine cr_putG X (cr_a5 E hf) 2 rfl rfl rfl i_X3_take_X3 tyX3 tyX3_ok nmX3 (by decide) k_X3_take_2 rfl rfl rfl (Nat.le_of_ble_eq_true rfl) dX3_take_35 (fun G35_4 => ?_)
    exact cr_vret X rfl rfl dX3_take_38
  · exact cr_vret X rfl rfl dX3_take_7
theorem c_X3_take_S (l : Launch) (E : cr_E) (hEK : cr_EK E) (S : cr_S) {f : Nat} (hf : f < 8) (p1 : Int32) (p2 : Int32) : cr_M l E yX3_take wsX3_take rm_X3_take [.ref (E.2.1 f 5), .int p1, .int p2] S (cr_vVG S f) (s_X3_take  p1 p2 (S.1 f)) := by
  have h := c_X3_take l E hEK S hf (S.1 f) p1 p2
  rw [cr_us_self] at h
  exact h
theorem k_X3_unload_1 : (Cond.fieldLink RX3 18 "CraneCampaign$Harbour" "count" "I") ∈ wsX3_unload := List.mem_of_getElem? (i := 1) (by rfl)
theorem k_X3_unload_2 : (Cond.fieldLink RX3 15 "CraneCampaign$Harbour" "weight" "[I") ∈ wsX3_unload := List.mem_of_getElem? (i := 2) (by rfl)
theorem k_X3_unload_3 : (Cond.methodLink RX3 32 Lib.Math.min.name) ∈ wsX3_unload := List.mem_of_getElem? (i := 3) (by rfl)
theorem k_X3_unload_4 : (Cond.static Lib.Math.min.name) ∈ wsX3_unload := List.mem_of_getElem? (i := 4) (by rfl)
theorem k_X3_unload_5 : (Cond.initialized "java/lang/Math") ∈ wsX3_unload := List.mem_of_getElem? (i := 5) (by rfl)
theorem k_X3_unload_6 : (Cond.code Lib.Math.min.name Lib.Math.min.code 2 (some .int)) ∈ wsX3_unload := List.mem_of_getElem? (i := 6) (by rfl)
theorem i_X3_unload_X3 : ∀ w ∈ wsX30, w ∈ wsX3_unload := by decide +kernel
abbrev rm_X3_unload : Room := { frames := 1, cells := 0, slots := 0, locals := 24 }
set_option maxHeartbeats 4000000 in
set_option maxRecDepth 100000 in
theorem b_X3_unload_4 {Γ : cr_C} {E : cr_E} (X : cr_X Γ E cX3_unload 5 RX3 wsX3_unload rm_X3_unload none) (S0 : cr_S) {f : Nat} (hf : f < 8) : ∀ (n : Nat) (x2 : Int32) (x3 : Int32) (G : cr_G), cr_P Γ E 5 (cr_F Γ E (cr_vVG S0 f)) 0 0 (cr_us S0 f G) 4 ([(0, .ref (E.2.1 f 5)), (2, .int x2), (3, .int x3)]) ([]) (s_X3_unload_4 n x2 x3 G) := by
  have hEK := X.2.2.2.2.2.2.1
  intro n
  induction n with
  | zero => intro x2 x3 G; exact cr_none
  | succ n ih =>
    intro x2 x3 G
    rw [s_X3_unload_4]
    refine cr_iload_n X 2 rfl dX3_unload_4 ?_
    refine cr_aload_n X 0 rfl dX3_unload_5 ?_
    refine cr_get X ((cr_a5 E hf).at (cr_row S0 f G 5) rfl) rfl i_X3_unload_X3 2 (by decide) k_X3_unload_1 rfl dX3_unload_6 ?_
    refine cr_icmp_ge X 46 dX3_unload_9 rfl ?_ ?_
    · exact cr_vret X rfl rfl dX3_unload_46
    · refine cr_iload_n X 1 rfl dX3_unload_12 ?_
      refine cr_aload_n X 0 rfl dX3_unload_13 ?_
      refine cr_get X ((cr_a5 E hf).at (cr_row S0 f G 5) rfl) rfl i_X3_unload_X3 1 (by decide) k_X3_unload_2 rfl dX3_unload_14 ?_
      refine cr_iload_n X 2 rfl dX3_unload_17 ?_
      refine cr_iald X ((cr_a7 E hf).at (cr_row S0 f G 7) rfl) dX3_unload_18 ?_
      refine cr_mmin X k_X3_unload_3 k_X3_unload_4 k_X3_unload_5 k_X3_unload_6 (by decide) (Nat.le_of_ble_eq_true rfl) (by decide) dX3_unload_19 ?_
      refine cr_istoreb X (fun v22_1 => [(4, .int v22_1), (0, .ref (E.2.1 f 5)), (2, .int x2), (3, .int x3)]) (fun _ => rfl) (by decide) dX3_unload_22 (fun v22_1 => ?_)
      refine cr_aload_n X 1 rfl dX3_unload_24 ?_
      refine cr_get X ((cr_a5 E hf).at (cr_row S0 f G 5) rfl) rfl i_X3_unload_X3 1 (by decide) k_X3_unload_2 rfl dX3_unload_25 ?_
      refine cr_iload_n X 3 rfl dX3_unload_28 ?_
      refine cr_dup2 X rfl rfl dX3_unload_29 ?_
      refine cr_iald X ((cr_a7 E hf).at (cr_row S0 f G 7) rfl) dX3_unload_30 ?_
      refine cr_iload X 0 rfl dX3_unload_31 ?_
      refine cr_isub X dX3_unload_33 ?_
      refine cr_iastG X (cr_a7 E hf) (fun _ _ => rfl) dX3_unload_34 (fun G34_2 => ?_)
      refine cr_iload_n X 2 rfl dX3_unload_35 ?_
      refine cr_iload X 0 rfl dX3_unload_36 ?_
      refine cr_isub X dX3_unload_38 ?_
      refine cr_istore_nb X (fun v39_3 => [(2, .int v39_3), (4, .int v22_1), (0, .ref (E.2.1 f 5)), (3, .int x3)]) (fun _ => rfl) (by decide) dX3_unload_39 (fun v39_3 => ?_)
      refine cr_iinc X (x3 + 1) (fun v40_4 => [(3, .int v40_4), (2, .int v39_3), (4, .int v22_1), (0, .ref (E.2.1 f 5))]) 3 rfl rfl (fun _ => rfl) (by decide) dX3_unload_40 (fun v40_4 => ?_)
      refine cr_goto X 4 dX3_unload_43 rfl ?_
      refine cr_sub (lv' := [(0, .ref (E.2.1 f 5)), (2, .int v39_3), (3, .int v40_4)]) [3, 1, 0] rfl ?_
      exact ih v39_3 v40_4 G34_2
set_option maxHeartbeats 4000000 in
set_option maxRecDepth 100000 in
theorem c_X3_unload (l : Launch) (E : cr_E) (hEK : cr_EK E) (S0 : cr_S) {f : Nat} (hf : f < 8) (G : cr_G) (p1 : Int32) : cr_M l E yX3_unload wsX3_unload rm_X3_unload [.ref (E.2.1 f 5), .int p1] (cr_us S0 f G) (cr_vVG S0 f) (s_X3_unload p1 G) := by
  refine cr_enter (cc := cX3_unload) (nL := 5) (rt := none) hEK (by decide) rfl (Nat.le_of_ble_eq_true rfl) (fun Γ hΓ X => ?_)
  subst hΓ
  have X : cr_X Γ E cX3_unload 5 RX3 wsX3_unload rm_X3_unload none := X
  unfold s_X3_unload
  show cr_P Γ E 5 _ 0 0 (cr_us S0 f G) 0 ([(0, .ref (E.2.1 f 5)), (1, .int p1)]) [] _
  refine cr_iload_n X 1 rfl dX3_unload_0 ?_
  refine cr_istore_n X ([(2, .int p1), (0, .ref (E.2.1 f 5)), (1, .int p1)]) rfl (by decide) dX3_unload_1 ?_
  refine cr_iconst X (0 : Int32) (by decide) dX3_unload_2 ?_
  refine cr_istore_n X ([(3, .int ((0 : Int32))), (2, .int p1), (0, .ref (E.2.1 f 5)), (1, .int p1)]) rfl (by decide) dX3_unload_3 ?_
  refine cr_sub (lv' := [(0, .ref (E.2.1 f 5)), (2, .int p1), (3, .int ((0 : Int32)))]) [2, 1, 0] rfl ?_
  exact b_X3_unload_4 X S0 hf 1200 p1 ((0 : Int32)) G
theorem c_X3_unload_S (l : Launch) (E : cr_E) (hEK : cr_EK E) (S : cr_S) {f : Nat} (hf : f < 8) (p1 : Int32) : cr_M l E yX3_unload wsX3_unload rm_X3_unload [.ref (E.2.1 f 5), .int p1] S (cr_vVG S f) (s_X3_unload  p1 (S.1 f)) := by
  have h := c_X3_unload l E hEK S hf (S.1 f) p1
  rw [cr_us_self] at h
  exact h
theorem k_X3_unloadedFor_1 : (Cond.fieldLink RX3 18 "CraneCampaign$Harbour" "count" "I") ∈ wsX3_unloadedFor := List.mem_of_getElem? (i := 1) (by rfl)
theorem k_X3_unloadedFor_2 : (Cond.fieldLink RX3 9 "CraneCampaign$Harbour" "turbine" "[I") ∈ wsX3_unloadedFor := List.mem_of_getElem? (i := 2) (by rfl)
theorem k_X3_unloadedFor_3 : (Cond.fieldLink RX3 15 "CraneCampaign$Harbour" "weight" "[I") ∈ wsX3_unloadedFor := List.mem_of_getElem? (i := 3) (by rfl)
theorem i_X3_unloadedFor_X3 : ∀ w ∈ wsX30, w ∈ wsX3_unloadedFor := by decide +kernel
abbrev rm_X3_unloadedFor : Room := { frames := 0, cells := 0, slots := 0, locals := 0 }
set_option maxHeartbeats 4000000 in
set_option maxRecDepth 100000 in
theorem b_X3_unloadedFor_4 {Γ : cr_C} {E : cr_E} (X : cr_X Γ E cX3_unloadedFor 4 RX3 wsX3_unloadedFor rm_X3_unloadedFor (some .int)) (S0 : cr_S) {f : Nat} (hf : f < 8) (G : cr_G) : ∀ (n : Nat) (x1 : Int32) (x2 : Int32) (x3 : Int32), cr_P Γ E 4 (cr_F Γ E (cr_vI (cr_us S0 f G))) 0 0 (cr_us S0 f G) 4 ([(0, .ref (E.2.1 f 5)), (1, .int x1), (2, .int x2), (3, .int x3)]) ([]) (s_X3_unloadedFor_4 G n x1 x2 x3) := by
  have hEK := X.2.2.2.2.2.2.1
  intro n
  induction n with
  | zero => intro x1 x2 x3; exact cr_none
  | succ n ih =>
    intro x1 x2 x3
    rw [s_X3_unloadedFor_4]
    refine cr_iload_n X 3 rfl dX3_unloadedFor_4 ?_
    refine cr_aload_n X 0 rfl dX3_unloadedFor_5 ?_
    refine cr_get X ((cr_a5 E hf).at (cr_row S0 f G 5) rfl) rfl i_X3_unloadedFor_X3 2 (by decide) k_X3_unloadedFor_1 rfl dX3_unloadedFor_6 ?_
    refine cr_icmp_ge X 40 dX3_unloadedFor_9 rfl ?_ ?_
    · refine cr_iload_n X 2 rfl dX3_unloadedFor_40 ?_
      exact cr_iret X rfl rfl dX3_unloadedFor_41
    · refine cr_aload_n X 0 rfl dX3_unloadedFor_12 ?_
      refine cr_get X ((cr_a5 E hf).at (cr_row S0 f G 5) rfl) rfl i_X3_unloadedFor_X3 0 (by decide) k_X3_unloadedFor_2 rfl dX3_unloadedFor_13 ?_
      refine cr_iload_n X 3 rfl dX3_unloadedFor_16 ?_
      refine cr_iald X ((cr_a6 E hf).at (cr_row S0 f G 6) rfl) dX3_unloadedFor_17 ?_
      refine cr_iload_n X 1 rfl dX3_unloadedFor_18 ?_
      refine cr_icmp_ne X 34 dX3_unloadedFor_19 rfl ?_ ?_
      · refine cr_iinc X (x3 + 1) (fun v34_1 => [(3, .int v34_1), (0, .ref (E.2.1 f 5)), (1, .int x1), (2, .int x2)]) 3 rfl rfl (fun _ => rfl) (by decide) dX3_unloadedFor_34 (fun v34_1 => ?_)
        refine cr_goto X 4 dX3_unloadedFor_37 rfl ?_
        refine cr_sub (lv' := [(0, .ref (E.2.1 f 5)), (1, .int x1), (2, .int x2), (3, .int v34_1)]) [1, 2, 3, 0] rfl ?_
        exact ih x1 x2 v34_1
      · refine cr_aload_n X 0 rfl dX3_unloadedFor_22 ?_
        refine cr_get X ((cr_a5 E hf).at (cr_row S0 f G 5) rfl) rfl i_X3_unloadedFor_X3 1 (by decide) k_X3_unloadedFor_3 rfl dX3_unloadedFor_23 ?_
        refine cr_iload_n X 3 rfl dX3_unloadedFor_26 ?_
        refine cr_iald X ((cr_a7 E hf).at (cr_row S0 f G 7) rfl) dX3_unloadedFor_27 ?_
        refine cr_if_ne X 34 dX3_unloadedFor_28 rfl ?_ ?_
        · refine cr_iinc X (x3 + 1) (fun v34_2 => [(3, .int v34_2), (0, .ref (E.2.1 f 5)), (1, .int x1), (2, .int x2)]) 3 rfl rfl (fun _ => rfl) (by decide) dX3_unloadedFor_34 (fun v34_2 => ?_)
          refine cr_goto X 4 dX3_unloadedFor_37 rfl ?_
          refine cr_sub (lv' := [(0, .ref (E.2.1 f 5)), (1, .int x1), (2, .int x2), (3, .int v34_2)]) [1, 2, 3, 0] rfl ?_
          exact ih x1 x2 v34_2
        · refine cr_iinc X (x2 + 1) (fun v31_3 => [(2, .int v31_3), (0, .ref (E.2.1 f 5)), (1, .int x1), (3, .int x3)]) 2 rfl rfl (fun _ => rfl) (by decide) dX3_unloadedFor_31 (fun v31_3 => ?_)
          refine cr_iinc X (x3 + 1) (fun v34_4 => [(3, .int v34_4), (2, .int v31_3), (0, .ref (E.2.1 f 5)), (1, .int x1)]) 3 rfl rfl (fun _ => rfl) (by decide) dX3_unloadedFor_34 (fun v34_4 => ?_)
          refine cr_goto X 4 dX3_unloadedFor_37 rfl ?_
          refine cr_sub (lv' := [(0, .ref (E.2.1 f 5)), (1, .int x1), (2, .int v31_3), (3, .int v34_4)]) [2, 3, 1, 0] rfl ?_
          exact ih x1 v31_3 v34_4
set_option maxHeartbeats 4000000 in
set_option maxRecDepth 100000 in
theorem c_X3_unloadedFor (l : Launch) (E : cr_E) (hEK : cr_EK E) (S0 : cr_S) {f : Nat} (hf : f < 8) (G : cr_G) (p1 : Int32) : cr_M l E yX3_unloadedFor wsX3_unloadedFor rm_X3_unloadedFor [.ref (E.2.1 f 5), .int p1] (cr_us S0 f G) (cr_vI (cr_us S0 f G)) (s_X3_unloadedFor G p1) := by
  refine cr_enter (cc := cX3_unloadedFor) (nL := 4) (rt := (some .int)) hEK (by decide) rfl (Nat.le_of_ble_eq_true rfl) (fun Γ hΓ X => ?_)
  subst hΓ
  have X : cr_X Γ E cX3_unloadedFor 4 RX3 wsX3_unloadedFor rm_X3_unloadedFor (some .int) := X
  unfold s_X3_unloadedFor
  show cr_P Γ E 4 _ 0 0 (cr_us S0 f G) 0 ([(0, .ref (E.2.1 f 5)), (1, .int p1)]) [] _
  refine cr_iconst X (0 : Int32) (by decide) dX3_unloadedFor_0 ?_
  refine cr_istore_n X ([(2, .int ((0 : Int32))), (0, .ref (E.2.1 f 5)), (1, .int p1)]) rfl (by decide) dX3_unloadedFor_1 ?_
  refine cr_iconst X (0 : Int32) (by decide) dX3_unloadedFor_2 ?_
  refine cr_istore_n X ([(3, .int ((0 : Int32))), (2, .int ((0 : Int32))), (0, .ref (E.2.1 f 5)), (1, .int p1)]) rfl (by decide) dX3_unloadedFor_3 ?_
  refine cr_sub (lv' := [(0, .ref (E.2.1 f 5)), (1, .int p1), (2, .int ((0 : Int32))), (3, .int ((0 : Int32)))]) [2, 3, 1, 0] rfl ?_
  exact b_X3_unloadedFor_4 X S0 hf G 1200 p1 ((0 : Int32)) ((0 : Int32))
theorem c_X3_unloadedFor_S (l : Launch) (E : cr_E) (hEK : cr_EK E) (S : cr_S) {f : Nat} (hf : f < 8) (p1 : Int32) : cr_M l E yX3_unloadedFor wsX3_unloadedFor rm_X3_unloadedFor [.ref (E.2.1 f 5), .int p1] S (cr_vI S) (s_X3_unloadedFor (S.1 f) p1) := by
  have h := c_X3_unloadedFor l E hEK S hf (S.1 f) p1
  rw [cr_us_self] at h
  exact h
theorem k_X3_useBladeFor_1 : (Cond.fieldLink RX3 18 "CraneCampaign$Harbour" "count" "I") ∈ wsX3_useBladeFor := List.mem_of_getElem? (i := 1) (by rfl)
theorem k_X3_useBladeFor_2 : (Cond.fieldLink RX3 9 "CraneCampaign$Harbour" "turbine" "[I") ∈ wsX3_useBladeFor := List.mem_of_getElem? (i := 2) (by rfl)
theorem k_X3_useBladeFor_3 : (Cond.fieldLink RX3 15 "CraneCampaign$Harbour" "weight" "[I") ∈ wsX3_useBladeFor := List.mem_of_getElem? (i := 3) (by rfl)
theorem i_X3_useBladeFor_X3 : ∀ w ∈ wsX30, w ∈ wsX3_useBladeFor := by decide +kernel
abbrev rm_X3_useBladeFor : Room := { frames := 1, cells := 0, slots := 0, locals := 22 }
set_option maxHeartbeats 4000000 in
set_option maxRecDepth 100000 in
theorem b_X3_useBladeFor_2 {Γ : cr_C} {E : cr_E} (X : cr_X Γ E cX3_useBladeFor 3 RX3 wsX3_useBladeFor rm_X3_useBladeFor none) (S0 : cr_S) {f : Nat} (hf : f < 8) : ∀ (n : Nat) (x1 : Int32) (x2 : Int32) (G : cr_G), cr_P Γ E 3 (cr_F Γ E (cr_vVG S0 f)) 0 0 (cr_us S0 f G) 2 ([(0, .ref (E.2.1 f 5)), (1, .int x1), (2, .int x2)]) ([]) (s_X3_useBladeFor_2 n x1 x2 G) := by
  have hEK := X.2.2.2.2.2.2.1
  intro n
  induction n with
  | zero => intro x1 x2 G; exact cr_none
  | succ n ih =>
    intro x1 x2 G
    rw [s_X3_useBladeFor_2]
    refine cr_iload_n X 2 rfl dX3_useBladeFor_2 ?_
    refine cr_aload_n X 0 rfl dX3_useBladeFor_3 ?_
    refine cr_get X ((cr_a5 E hf).at (cr_row S0 f G 5) rfl) rfl i_X3_useBladeFor_X3 2 (by decide) k_X3_useBladeFor_1 rfl dX3_useBladeFor_4 ?_
    refine cr_icmp_ge X 41 dX3_useBladeFor_7 rfl ?_ ?_
    · exact cr_vret X rfl rfl dX3_useBladeFor_41
    · refine cr_aload_n X 0 rfl dX3_useBladeFor_10 ?_
      refine cr_get X ((cr_a5 E hf).at (cr_row S0 f G 5) rfl) rfl i_X3_useBladeFor_X3 0 (by decide) k_X3_useBladeFor_2 rfl dX3_useBladeFor_11 ?_
      refine cr_iload_n X 2 rfl dX3_useBladeFor_14 ?_
      refine cr_iald X ((cr_a6 E hf).at (cr_row S0 f G 6) rfl) dX3_useBladeFor_15 ?_
      refine cr_iload_n X 1 rfl dX3_useBladeFor_16 ?_
      refine cr_icmp_ne X 35 dX3_useBladeFor_17 rfl ?_ ?_
      · refine cr_iinc X (x2 + 1) (fun v35_1 => [(2, .int v35_1), (0, .ref (E.2.1 f 5)), (1, .int x1)]) 2 rfl rfl (fun _ => rfl) (by decide) dX3_useBladeFor_35 (fun v35_1 => ?_)
        refine cr_goto X 2 dX3_useBladeFor_38 rfl ?_
        refine cr_sub (lv' := [(0, .ref (E.2.1 f 5)), (1, .int x1), (2, .int v35_1)]) [1, 2, 0] rfl ?_
        exact ih x1 v35_1 G
      · refine cr_aload_n X 0 rfl dX3_useBladeFor_20 ?_
        refine cr_get X ((cr_a5 E hf).at (cr_row S0 f G 5) rfl) rfl i_X3_useBladeFor_X3 1 (by decide) k_X3_useBladeFor_3 rfl dX3_useBladeFor_21 ?_
        refine cr_iload_n X 2 rfl dX3_useBladeFor_24 ?_
        refine cr_iald X ((cr_a7 E hf).at (cr_row S0 f G 7) rfl) dX3_useBladeFor_25 ?_
        refine cr_if_ne X 35 dX3_useBladeFor_26 rfl ?_ ?_
        · refine cr_iinc X (x2 + 1) (fun v35_2 => [(2, .int v35_2), (0, .ref (E.2.1 f 5)), (1, .int x1)]) 2 rfl rfl (fun _ => rfl) (by decide) dX3_useBladeFor_35 (fun v35_2 => ?_)
          refine cr_goto X 2 dX3_useBladeFor_38 rfl ?_
          refine cr_sub (lv' := [(0, .ref (E.2.1 f 5)), (1, .int x1), (2, .int v35_2)]) [1, 2, 0] rfl ?_
          exact ih x1 v35_2 G
        · refine cr_aload_n X 0 rfl dX3_useBladeFor_29 ?_
          refine cr_iload_n X 2 rfl dX3_useBladeFor_30 ?_
          refine cr_callV X (As := [.int x2]) (rest := []) (c_X3_removeAt Γ.2.1 E hEK S0 hf G x2) ((cr_a5 E hf).at (cr_row S0 f G 5) rfl) rfl 1 gX3_useBladeFor_X3_removeAt rfl rfl rfl (by decide +kernel) ⟨Nat.le_of_ble_eq_true rfl, Nat.le_of_ble_eq_true rfl⟩ (by decide) rfl rfl (Nat.le_of_ble_eq_true rfl) dX3_useBladeFor_31 (fun r31_3 => ?_)
          show cr_P Γ E 3 _ 0 0 (cr_us S0 f r31_3) 34 ([(0, .ref (E.2.1 f 5)), (1, .int x1), (2, .int x2)]) ([]) _
          exact cr_vret X rfl rfl dX3_useBladeFor_34
set_option maxHeartbeats 4000000 in
set_option maxRecDepth 100000 in
theorem c_X3_useBladeFor (l : Launch) (E : cr_E) (hEK : cr_EK E) (S0 : cr_S) {f : Nat} (hf : f < 8) (G : cr_G) (p1 : Int32) : cr_M l E yX3_useBladeFor wsX3_useBladeFor rm_X3_useBladeFor [.ref (E.2.1 f 5), .int p1] (cr_us S0 f G) (cr_vVG S0 f) (s_X3_useBladeFor p1 G) := by
  refine cr_enter (cc := cX3_useBladeFor) (nL := 3) (rt := none) hEK (by decide) rfl (Nat.le_of_ble_eq_true rfl) (fun Γ hΓ X => ?_)
  subst hΓ
  have X : cr_X Γ E cX3_useBladeFor 3 RX3 wsX3_useBladeFor rm_X3_useBladeFor none := X
  unfold s_X3_useBladeFor
  show cr_P Γ E 3 _ 0 0 (cr_us S0 f G) 0 ([(0, .ref (E.2.1 f 5)), (1, .int p1)]) [] _
  refine cr_iconst X (0 : Int32) (by decide) dX3_useBladeFor_0 ?_
  refine cr_istore_n X ([(2, .int ((0 : Int32))), (0, .ref (E.2.1 f 5)), (1, .int p1)]) rfl (by decide) dX3_useBladeFor_1 ?_
  refine cr_sub (lv' := [(0, .ref (E.2.1 f 5)), (1, .int p1), (2, .int ((0 : Int32)))]) [1, 2, 0] rfl ?_
  exact b_X3_useBladeFor_2 X S0 hf 1200 p1 ((0 : Int32)) G
theorem c_X3_useBladeFor_S (l : Launch) (E : cr_E) (hEK : cr_EK E) (S : cr_S) {f : Nat} (hf : f < 8) (p1 : Int32) : cr_M l E yX3_useBladeFor wsX3_useBladeFor rm_X3_useBladeFor [.ref (E.2.1 f 5), .int p1] S (cr_vVG S f) (s_X3_useBladeFor  p1 (S.1 f)) := by
  have h := c_X3_useBladeFor l E hEK S hf (S.1 f) p1
  rw [cr_us_self] at h
  exact h
theorem k_X4_copyFrom_1 : (Cond.fieldLink RX4 9 "CraneCampaign$Plan" "row" "[I") ∈ wsX4_copyFrom := List.mem_of_getElem? (i := 1) (by rfl)
theorem k_X4_copyFrom_2 : (Cond.methodLink RX4 19 arraycopyName) ∈ wsX4_copyFrom := List.mem_of_getElem? (i := 2) (by rfl)
theorem k_X4_copyFrom_3 : (Cond.native arraycopyName) ∈ wsX4_copyFrom := List.mem_of_getElem? (i := 3) (by rfl)
theorem k_X4_copyFrom_4 : (Cond.static arraycopyName) ∈ wsX4_copyFrom := List.mem_of_getElem? (i := 4) (by rfl)
theorem k_X4_copyFrom_5 : (Cond.initialized "java/lang/System") ∈ wsX4_copyFrom := List.mem_of_getElem? (i := 5) (by rfl)
theorem k_X4_copyFrom_6 : (Cond.fieldLink RX4 15 "CraneCampaign$Plan" "count" "I") ∈ wsX4_copyFrom := List.mem_of_getElem? (i := 6) (by rfl)
theorem i_X4_copyFrom_X4 : ∀ w ∈ wsX40, w ∈ wsX4_copyFrom := by decide +kernel
abbrev rm_X4_copyFrom : Room := { frames := 1, cells := 0, slots := 0, locals := 40 }
set_option maxHeartbeats 4000000 in
set_option maxRecDepth 100000 in
theorem c_X4_copyFrom (l : Launch) (E : cr_E) (hEK : cr_EK E) (S0 : cr_S) {f : Nat} (hf : f < 8) {g : Nat} (hg : g < 8) (hne : g ≠ f) (G : cr_G) : cr_M l E yX4_copyFrom wsX4_copyFrom rm_X4_copyFrom [.ref (E.2.1 f 8), .ref (E.2.1 g 8)] (cr_us S0 f G) (cr_vVG S0 f) (s_X4_copyFrom (S0.1 g) G) := by
  refine cr_enter (cc := cX4_copyFrom) (nL := 2) (rt := none) hEK (by decide) rfl (Nat.le_of_ble_eq_true rfl) (fun Γ hΓ X => ?_)
  subst hΓ
  have X : cr_X Γ E cX4_copyFrom 2 RX4 wsX4_copyFrom rm_X4_copyFrom none := X
  unfold s_X4_copyFrom
  show cr_P Γ E 2 _ 0 0 (cr_us S0 f G) 0 ([(0, .ref (E.2.1 f 8)), (1, .ref (E.2.1 g 8))]) [] _
  refine cr_aload_n X 1 rfl dX4_copyFrom_0 ?_
  refine cr_get X ((cr_a8 E hg).at (cr_rowo S0 G hne 8) rfl) rfl i_X4_copyFrom_X4 0 (by decide) k_X4_copyFrom_1 rfl dX4_copyFrom_1 ?_
  refine cr_iconst X (0 : Int32) (by decide) dX4_copyFrom_4 ?_
  refine cr_aload_n X 0 rfl dX4_copyFrom_5 ?_
  refine cr_get X ((cr_a8 E hf).at (cr_row S0 f G 8) rfl) rfl i_X4_copyFrom_X4 0 (by decide) k_X4_copyFrom_1 rfl dX4_copyFrom_6 ?_
  refine cr_iconst X (0 : Int32) (by decide) dX4_copyFrom_9 ?_
  refine cr_bipush X (10 : Int32) (by decide) dX4_copyFrom_10 ?_
  refine cr_acopyG X ((S0.1 g) 9) ((cr_a9 E hg).at (cr_rowo S0 G hne 9) rfl) (cr_a9 E hf) (fun _ _ => rfl) 0 0 10 (by decide) (by decide) k_X4_copyFrom_2 k_X4_copyFrom_3 k_X4_copyFrom_4 k_X4_copyFrom_5 (by decide) (by decide +kernel) dX4_copyFrom_12 (fun G12_1 => ?_)
  refine cr_aload_n X 0 rfl dX4_copyFrom_15 ?_
  refine cr_aload_n X 1 rfl dX4_copyFrom_16 ?_
  refine cr_get X ((cr_a8 E hg).at (cr_rowo S0 G12_1 hne 8) rfl) rfl i_X4_copyFrom_X4 1 (by decide) k_X4_copyFrom_6 rfl dX4_copyFrom_17 ?_
  refine cr_putG X (cr_a8 E hf) 1 rfl rfl rfl i_X4_copyFrom_X4 tyX4 tyX4_ok nmX4 (by decide) k_X4_copyFrom_6 rfl rfl rfl (Nat.le_of_ble_eq_true rfl) dX4_copyFrom_20 (fun G20_2 => ?_)
  exact cr_vret X rfl rfl dX4_copyFrom_23
theorem c_X4_copyFrom_S (l : Launch) (E : cr_E) (hEK : cr_EK E) (S : cr_S) {f : Nat} (hf : f < 8) {g : Nat} (hg : g < 8) (hne : g ≠ f) : cr_M l E yX4_copyFrom wsX4_copyFrom rm_X4_copyFrom [.ref (E.2.1 f 8), .ref (E.2.1 g 8)] S (cr_vVG S f) (s_X4_copyFrom (S.1 g)  (S.1 f)) := by
  have h := c_X4_copyFrom l E hEK S hf hg hne (S.1 f)
  rw [cr_us_self] at h
  exact h
theorem k_X4_placeOf_1 : (Cond.fieldLink RX4 15 "CraneCampaign$Plan" "count" "I") ∈ wsX4_placeOf := List.mem_of_getElem? (i := 1) (by rfl)
theorem k_X4_placeOf_2 : (Cond.fieldLink RX4 9 "CraneCampaign$Plan" "row" "[I") ∈ wsX4_placeOf := List.mem_of_getElem? (i := 2) (by rfl)
theorem i_X4_placeOf_X4 : ∀ w ∈ wsX40, w ∈ wsX4_placeOf := by decide +kernel
abbrev rm_X4_placeOf : Room := { frames := 0, cells := 0, slots := 0, locals := 0 }
set_option maxHeartbeats 4000000 in
set_option maxRecDepth 100000 in
theorem b_X4_placeOf_2 {Γ : cr_C} {E : cr_E} (X : cr_X Γ E cX4_placeOf 3 RX4 wsX4_placeOf rm_X4_placeOf (some .int)) (S0 : cr_S) {f : Nat} (hf : f < 8) (G : cr_G) : ∀ (n : Nat) (x1 : Int32) (x2 : Int32), cr_P Γ E 3 (cr_F Γ E (cr_vI (cr_us S0 f G))) 0 0 (cr_us S0 f G) 2 ([(0, .ref (E.2.1 f 8)), (1, .int x1), (2, .int x2)]) ([]) (s_X4_placeOf_2 G n x1 x2) := by
  have hEK := X.2.2.2.2.2.2.1
  intro n
  induction n with
  | zero => intro x1 x2; exact cr_none
  | succ n ih =>
    intro x1 x2
    rw [s_X4_placeOf_2]
    refine cr_iload_n X 2 rfl dX4_placeOf_2 ?_
    refine cr_aload_n X 0 rfl dX4_placeOf_3 ?_
    refine cr_get X ((cr_a8 E hf).at (cr_row S0 f G 8) rfl) rfl i_X4_placeOf_X4 1 (by decide) k_X4_placeOf_1 rfl dX4_placeOf_4 ?_
    refine cr_icmp_ge X 28 dX4_placeOf_7 rfl ?_ ?_
    · refine cr_iconst X (-1 : Int32) (by decide) dX4_placeOf_28 ?_
      exact cr_iret X rfl rfl dX4_placeOf_29
    · refine cr_aload_n X 0 rfl dX4_placeOf_10 ?_
      refine cr_get X ((cr_a8 E hf).at (cr_row S0 f G 8) rfl) rfl i_X4_placeOf_X4 0 (by decide) k_X4_placeOf_2 rfl dX4_placeOf_11 ?_
      refine cr_iload_n X 2 rfl dX4_placeOf_14 ?_
      refine cr_iald X ((cr_a9 E hf).at (cr_row S0 f G 9) rfl) dX4_placeOf_15 ?_
      refine cr_iload_n X 1 rfl dX4_placeOf_16 ?_
      refine cr_icmp_ne X 22 dX4_placeOf_17 rfl ?_ ?_
      · refine cr_iinc X (x2 + 1) (fun v22_1 => [(2, .int v22_1), (0, .ref (E.2.1 f 8)), (1, .int x1)]) 2 rfl rfl (fun _ => rfl) (by decide) dX4_placeOf_22 (fun v22_1 => ?_)
        refine cr_goto X 2 dX4_placeOf_25 rfl ?_
        refine cr_sub (lv' := [(0, .ref (E.2.1 f 8)), (1, .int x1), (2, .int v22_1)]) [1, 2, 0] rfl ?_
        exact ih x1 v22_1
      · refine cr_iload_n X 2 rfl dX4_placeOf_20 ?_
        exact cr_iret X rfl rfl dX4_placeOf_21
set_option maxHeartbeats 4000000 in
set_option maxRecDepth 100000 in
theorem c_X4_placeOf (l : Launch) (E : cr_E) (hEK : cr_EK E) (S0 : cr_S) {f : Nat} (hf : f < 8) (G : cr_G) (p1 : Int32) : cr_M l E yX4_placeOf wsX4_placeOf rm_X4_placeOf [.ref (E.2.1 f 8), .int p1] (cr_us S0 f G) (cr_vI (cr_us S0 f G)) (s_X4_placeOf G p1) := by
  refine cr_enter (cc := cX4_placeOf) (nL := 3) (rt := (some .int)) hEK (by decide) rfl (Nat.le_of_ble_eq_true rfl) (fun Γ hΓ X => ?_)
  subst hΓ
  have X : cr_X Γ E cX4_placeOf 3 RX4 wsX4_placeOf rm_X4_placeOf (some .int) := X
  unfold s_X4_placeOf
  show cr_P Γ E 3 _ 0 0 (cr_us S0 f G) 0 ([(0, .ref (E.2.1 f 8)), (1, .int p1)]) [] _
  refine cr_iconst X (0 : Int32) (by decide) dX4_placeOf_0 ?_
  refine cr_istore_n X ([(2, .int ((0 : Int32))), (0, .ref (E.2.1 f 8)), (1, .int p1)]) rfl (by decide) dX4_placeOf_1 ?_
  refine cr_sub (lv' := [(0, .ref (E.2.1 f 8)), (1, .int p1), (2, .int ((0 : Int32)))]) [1, 2, 0] rfl ?_
  exact b_X4_placeOf_2 X S0 hf G 1200 p1 ((0 : Int32))
theorem c_X4_placeOf_S (l : Launch) (E : cr_E) (hEK : cr_EK E) (S : cr_S) {f : Nat} (hf : f < 8) (p1 : Int32) : cr_M l E yX4_placeOf wsX4_placeOf rm_X4_placeOf [.ref (E.2.1 f 8), .int p1] S (cr_vI S) (s_X4_placeOf (S.1 f) p1) := by
  have h := c_X4_placeOf l E hEK S hf (S.1 f) p1
  rw [cr_us_self] at h
  exact h
theorem k_X4_countWithout_1 : (Cond.fieldLink RX4 15 "CraneCampaign$Plan" "count" "I") ∈ wsX4_countWithout := List.mem_of_getElem? (i := 1) (by rfl)
theorem i_X4_countWithout_X4 : ∀ w ∈ wsX40, w ∈ wsX4_countWithout := by decide +kernel
abbrev rm_X4_countWithout : Room := { frames := 1, cells := 0, slots := 0, locals := 22 }
set_option maxHeartbeats 4000000 in
set_option maxRecDepth 100000 in
theorem c_X4_countWithout (l : Launch) (E : cr_E) (hEK : cr_EK E) (S0 : cr_S) {f : Nat} (hf : f < 8) (G : cr_G) (p1 : Int32) : cr_M l E yX4_countWithout wsX4_countWithout rm_X4_countWithout [.ref (E.2.1 f 8), .int p1] (cr_us S0 f G) (cr_vI (cr_us S0 f G)) (s_X4_countWithout G p1) := by
  refine cr_enter (cc := cX4_countWithout) (nL := 2) (rt := (some .int)) hEK (by decide) rfl (Nat.le_of_ble_eq_true rfl) (fun Γ hΓ X => ?_)
  subst hΓ
  have X : cr_X Γ E cX4_countWithout 2 RX4 wsX4_countWithout rm_X4_countWithout (some .int) := X
  unfold s_X4_countWithout
  show cr_P Γ E 2 _ 0 0 (cr_us S0 f G) 0 ([(0, .ref (E.2.1 f 8)), (1, .int p1)]) [] _
  refine cr_aload_n X 0 rfl dX4_countWithout_0 ?_
  refine cr_iload_n X 1 rfl dX4_countWithout_1 ?_
  refine cr_callV X (As := [.int p1]) (rest := []) (c_X4_placeOf Γ.2.1 E hEK S0 hf G p1) ((cr_a8 E hf).at (cr_row S0 f G 8) rfl) rfl 1 gX4_countWithout_X4_placeOf rfl rfl rfl (by decide +kernel) ⟨Nat.le_of_ble_eq_true rfl, Nat.le_of_ble_eq_true rfl⟩ (by decide) rfl rfl (Nat.le_of_ble_eq_true rfl) dX4_countWithout_2 (fun r2_1 => ?_)
  show cr_P Γ E 2 _ 0 0 (cr_us S0 f G) 5 ([(0, .ref (E.2.1 f 8)), (1, .int p1)]) ([.int r2_1]) _
  refine cr_iconst X (-1 : Int32) (by decide) dX4_countWithout_5 ?_
  refine cr_icmp_ne X 16 dX4_countWithout_6 rfl ?_ ?_
  · refine cr_aload_n X 0 rfl dX4_countWithout_16 ?_
    refine cr_get X ((cr_a8 E hf).at (cr_row S0 f G 8) rfl) rfl i_X4_countWithout_X4 1 (by decide) k_X4_countWithout_1 rfl dX4_countWithout_17 ?_
    refine cr_iconst X (1 : Int32) (by decide) dX4_countWithout_20 ?_
    refine cr_isub X dX4_countWithout_21 ?_
    exact cr_iret X rfl rfl dX4_countWithout_22
  · refine cr_aload_n X 0 rfl dX4_countWithout_9 ?_
    refine cr_get X ((cr_a8 E hf).at (cr_row S0 f G 8) rfl) rfl i_X4_countWithout_X4 1 (by decide) k_X4_countWithout_1 rfl dX4_countWithout_10 ?_
    refine cr_goto X 22 dX4_countWithout_13 rfl ?_
    exact cr_iret X rfl rfl dX4_countWithout_22
theorem c_X4_countWithout_S (l : Launch) (E : cr_E) (hEK : cr_EK E) (S : cr_S) {f : Nat} (hf : f < 8) (p1 : Int32) : cr_M l E yX4_countWithout wsX4_countWithout rm_X4_countWithout [.ref (E.2.1 f 8), .int p1] S (cr_vI S) (s_X4_countWithout (S.1 f) p1) := by
  have h := c_X4_countWithout l E hEK S hf (S.1 f) p1
  rw [cr_us_self] at h
  exact h
theorem k_X4_first_1 : (Cond.fieldLink RX4 15 "CraneCampaign$Plan" "count" "I") ∈ wsX4_first := List.mem_of_getElem? (i := 1) (by rfl)
theorem k_X4_first_2 : (Cond.fieldLink RX4 9 "CraneCampaign$Plan" "row" "[I") ∈ wsX4_first := List.mem_of_getElem? (i := 2) (by rfl)
theorem i_X4_first_X4 : ∀ w ∈ wsX40, w ∈ wsX4_first := by decide +kernel
abbrev rm_X4_first : Room := { frames := 0, cells := 0, slots := 0, locals := 0 }
set_option maxHeartbeats 4000000 in
set_option maxRecDepth 100000 in
theorem c_X4_first (l : Launch) (E : cr_E) (hEK : cr_EK E) (S0 : cr_S) {f : Nat} (hf : f < 8) (G : cr_G) : cr_M l E yX4_first wsX4_first rm_X4_first [.ref (E.2.1 f 8)] (cr_us S0 f G) (cr_vI (cr_us S0 f G)) (s_X4_first G) := by
  refine cr_enter (cc := cX4_first) (nL := 1) (rt := (some .int)) hEK (by decide) rfl (Nat.le_of_ble_eq_true rfl) (fun Γ hΓ X => ?_)
  subst hΓ
  have X : cr_X Γ E cX4_first 1 RX4 wsX4_first rm_X4_first (some .int) := X
  unfold s_X4_first
  show cr_P Γ E 1 _ 0 0 (cr_us S0 f G) 0 ([(0, .ref (E.2.1 f 8))]) [] _
  refine cr_aload_n X 0 rfl dX4_first_0 ?_
  refine cr_get X ((cr_a8 E hf).at (cr_row S0 f G 8) rfl) rfl i_X4_first_X4 1 (by decide) k_X4_first_1 rfl dX4_first_1 ?_
  refine cr_if_le X 16 dX4_first_4 rfl ?_ ?_
  · refine cr_iconst X (-1 : Int32) (by decide) dX4_first_16 ?_
    exact cr_iret X rfl rfl dX4_first_17
  · refine cr_aload_n X 0 rfl dX4_first_7 ?_
    refine cr_get X ((cr_a8 E hf).at (cr_row S0 f G 8) rfl) rfl i_X4_first_X4 0 (by decide) k_X4_first_2 rfl dX4_first_8 ?_
    refine cr_iconst X (0 : Int32) (by decide) dX4_first_11 ?_
    refine cr_ialdk X 0 (by decide) (by decide) ((cr_a9 E hf).at (cr_row S0 f G 9) rfl) dX4_first_12 ?_
    refine cr_goto X 17 dX4_first_13 rfl ?_
    exact cr_iret X rfl rfl dX4_first_17
theorem c_X4_first_S (l : Launch) (E : cr_E) (hEK : cr_EK E) (S : cr_S) {f : Nat} (hf : f < 8) : cr_M l E yX4_first wsX4_first rm_X4_first [.ref (E.2.1 f 8)] S (cr_vI S) (s_X4_first (S.1 f)) := by
  have h := c_X4_first l E hEK S hf (S.1 f)
  rw [cr_us_self] at h
  exact h
theorem k_X4_removeAt_1 : (Cond.fieldLink RX4 15 "CraneCampaign$Plan" "count" "I") ∈ wsX4_removeAt := List.mem_of_getElem? (i := 1) (by rfl)
theorem k_X4_removeAt_2 : (Cond.fieldLink RX4 9 "CraneCampaign$Plan" "row" "[I") ∈ wsX4_removeAt := List.mem_of_getElem? (i := 2) (by rfl)
theorem i_X4_removeAt_X4 : ∀ w ∈ wsX40, w ∈ wsX4_removeAt := by decide +kernel
abbrev rm_X4_removeAt : Room := { frames := 0, cells := 0, slots := 0, locals := 0 }
set_option maxHeartbeats 4000000 in
set_option maxRecDepth 100000 in
theorem b_X4_removeAt_25 {Γ : cr_C} {E : cr_E} (X : cr_X Γ E cX4_removeAt 3 RX4 wsX4_removeAt rm_X4_removeAt none) (S0 : cr_S) {f : Nat} (hf : f < 8) : ∀ (n : Nat) (x2 : Int32) (G : cr_G), cr_P Γ E 3 (cr_F Γ E (cr_vVG S0 f)) 0 0 (cr_us S0 f G) 25 ([(0, .ref (E.2.1 f 8)), (2, .int x2)]) ([]) (s_X4_removeAt_25 n x2 G) := by
  have hEK := X.2.2.2.2.2.2.1
  intro n
  induction n with
  | zero => intro x2 G; exact cr_none
  | succ n ih =>
    intro x2 G
    rw [s_X4_removeAt_25]
    refine cr_iload_n X 1 rfl dX4_removeAt_25 ?_
    refine cr_aload_n X 0 rfl dX4_removeAt_26 ?_
    refine cr_get X ((cr_a8 E hf).at (cr_row S0 f G 8) rfl) rfl i_X4_removeAt_X4 1 (by decide) k_X4_removeAt_1 rfl dX4_removeAt_27 ?_
    refine cr_icmp_ge X 53 dX4_removeAt_30 rfl ?_ ?_
    · exact cr_vret X rfl rfl dX4_removeAt_53
    · refine cr_aload_n X 0 rfl dX4_removeAt_33 ?_
      refine cr_get X ((cr_a8 E hf).at (cr_row S0 f G 8) rfl) rfl i_X4_removeAt_X4 0 (by decide) k_X4_removeAt_2 rfl dX4_removeAt_34 ?_
      refine cr_iload_n X 1 rfl dX4_removeAt_37 ?_
      refine cr_aload_n X 0 rfl dX4_removeAt_38 ?_
      refine cr_get X ((cr_a8 E hf).at (cr_row S0 f G 8) rfl) rfl i_X4_removeAt_X4 0 (by decide) k_X4_removeAt_2 rfl dX4_removeAt_39 ?_
      refine cr_iload_n X 1 rfl dX4_removeAt_42 ?_
      refine cr_iconst X (1 : Int32) (by decide) dX4_removeAt_43 ?_
      refine cr_iadd X dX4_removeAt_44 ?_
      refine cr_iald X ((cr_a9 E hf).at (cr_row S0 f G 9) rfl) dX4_removeAt_45 ?_
      refine cr_iastG X (cr_a9 E hf) (fun _ _ => rfl) dX4_removeAt_46 (fun G46_2 => ?_)
      refine cr_iinc X (x2 + 1) (fun v47_3 => [(2, .int v47_3), (0, .ref (E.2.1 f 8))]) 1 rfl rfl (fun _ => rfl) (by decide) dX4_removeAt_47 (fun v47_3 => ?_)
      refine cr_goto X 25 dX4_removeAt_50 rfl ?_
      refine cr_sub (lv' := [(0, .ref (E.2.1 f 8)), (2, .int v47_3)]) [1, 0] rfl ?_
      exact ih v47_3 G46_2
set_option maxHeartbeats 4000000 in
set_option maxRecDepth 100000 in
theorem c_X4_removeAt (l : Launch) (E : cr_E) (hEK : cr_EK E) (S0 : cr_S) {f : Nat} (hf : f < 8) (G : cr_G) (p1 : Int32) : cr_M l E yX4_removeAt wsX4_removeAt rm_X4_removeAt [.ref (E.2.1 f 8), .int p1] (cr_us S0 f G) (cr_vVG S0 f) (s_X4_removeAt p1 G) := by
  refine cr_enter (cc := cX4_removeAt) (nL := 3) (rt := none) hEK (by decide) rfl (Nat.le_of_ble_eq_true rfl) (fun Γ hΓ X => ?_)
  subst hΓ
  have X : cr_X Γ E cX4_removeAt 3 RX4 wsX4_removeAt rm_X4_removeAt none := X
  unfold s_X4_removeAt
  show cr_P Γ E 3 _ 0 0 (cr_us S0 f G) 0 ([(0, .ref (E.2.1 f 8)), (1, .int p1)]) [] _
  refine cr_iload_n X 1 rfl dX4_removeAt_0 ?_
  refine cr_if_lt X 12 dX4_removeAt_1 rfl ?_ ?_
  · exact cr_vret X rfl rfl dX4_removeAt_12
  · refine cr_iload_n X 1 rfl dX4_removeAt_4 ?_
    refine cr_aload_n X 0 rfl dX4_removeAt_5 ?_
    refine cr_get X ((cr_a8 E hf).at (cr_row S0 f G 8) rfl) rfl i_X4_removeAt_X4 1 (by decide) k_X4_removeAt_1 rfl dX4_removeAt_6 ?_
    refine cr_icmp_lt X 13 dX4_removeAt_9 rfl ?_ ?_
    · refine cr_aload_n X 0 rfl dX4_removeAt_13 ?_
      refine cr_dup X rfl dX4_removeAt_14 ?_
      refine cr_get X ((cr_a8 E hf).at (cr_row S0 f G 8) rfl) rfl i_X4_removeAt_X4 1 (by decide) k_X4_removeAt_1 rfl dX4_removeAt_15 ?_
      refine cr_iconst X (1 : Int32) (by decide) dX4_removeAt_18 ?_
      refine cr_isub X dX4_removeAt_19 ?_
      refine cr_putG X (cr_a8 E hf) 1 rfl rfl rfl i_X4_removeAt_X4 tyX4 tyX4_ok nmX4 (by decide) k_X4_removeAt_1 rfl rfl rfl (Nat.le_of_ble_eq_true rfl) dX4_removeAt_20 (fun G20_1 => ?_)
      refine cr_iload_n X 1 rfl dX4_removeAt_23 ?_
      refine cr_istore_n X ([(2, .int p1), (0, .ref (E.2.1 f 8)), (1, .int p1)]) rfl (by decide) dX4_removeAt_24 ?_
      refine cr_sub (lv' := [(0, .ref (E.2.1 f 8)), (2, .int p1)]) [1, 0] rfl ?_
      exact b_X4_removeAt_25 X S0 hf 1200 p1 G20_1
    · exact cr_vret X rfl rfl dX4_removeAt_12
theorem c_X4_removeAt_S (l : Launch) (E : cr_E) (hEK : cr_EK E) (S : cr_S) {f : Nat} (hf : f < 8) (p1 : Int32) : cr_M l E yX4_removeAt wsX4_removeAt rm_X4_removeAt [.ref (E.2.1 f 8), .int p1] S (cr_vVG S f) (s_X4_removeAt  p1 (S.1 f)) := by
  have h := c_X4_removeAt l E hEK S hf (S.1 f) p1
  rw [cr_us_self] at h
  exact h
theorem k_X4_moveTo_1 : (Cond.fieldLink RX4 15 "CraneCampaign$Plan" "count" "I") ∈ wsX4_moveTo := List.mem_of_getElem? (i := 1) (by rfl)
theorem k_X4_moveTo_2 : (Cond.fieldLink RX4 9 "CraneCampaign$Plan" "row" "[I") ∈ wsX4_moveTo := List.mem_of_getElem? (i := 2) (by rfl)
theorem i_X4_moveTo_X4 : ∀ w ∈ wsX40, w ∈ wsX4_moveTo := by decide +kernel
abbrev rm_X4_moveTo : Room := { frames := 1, cells := 0, slots := 0, locals := 22 }
set_option maxHeartbeats 4000000 in
set_option maxRecDepth 100000 in
theorem b_X4_moveTo_36 {Γ : cr_C} {E : cr_E} (X : cr_X Γ E cX4_moveTo 4 RX4 wsX4_moveTo rm_X4_moveTo none) (S0 : cr_S) {f : Nat} (hf : f < 8) : ∀ (n : Nat) (x1 : Int32) (x2 : Int32) (x3 : Int32) (G : cr_G), cr_P Γ E 4 (cr_F Γ E (cr_vVG S0 f)) 0 0 (cr_us S0 f G) 36 ([(0, .ref (E.2.1 f 8)), (1, .int x1), (2, .int x2), (3, .int x3)]) ([]) (s_X4_moveTo_36 n x1 x2 x3 G) := by
  have hEK := X.2.2.2.2.2.2.1
  intro n
  induction n with
  | zero => intro x1 x2 x3 G; exact cr_none
  | succ n ih =>
    intro x1 x2 x3 G
    rw [s_X4_moveTo_36]
    refine cr_iload_n X 3 rfl dX4_moveTo_36 ?_
    refine cr_iload_n X 2 rfl dX4_moveTo_37 ?_
    refine cr_icmp_le X 61 dX4_moveTo_38 rfl ?_ ?_
    · refine cr_aload_n X 0 rfl dX4_moveTo_61 ?_
      refine cr_get X ((cr_a8 E hf).at (cr_row S0 f G 8) rfl) rfl i_X4_moveTo_X4 0 (by decide) k_X4_moveTo_2 rfl dX4_moveTo_62 ?_
      refine cr_iload_n X 2 rfl dX4_moveTo_65 ?_
      refine cr_iload_n X 1 rfl dX4_moveTo_66 ?_
      refine cr_iastG X (cr_a9 E hf) (fun _ _ => rfl) dX4_moveTo_67 (fun G67_4 => ?_)
      refine cr_aload_n X 0 rfl dX4_moveTo_68 ?_
      refine cr_dup X rfl dX4_moveTo_69 ?_
      refine cr_get X ((cr_a8 E hf).at (cr_row S0 f G67_4 8) rfl) rfl i_X4_moveTo_X4 1 (by decide) k_X4_moveTo_1 rfl dX4_moveTo_70 ?_
      refine cr_iconst X (1 : Int32) (by decide) dX4_moveTo_73 ?_
      refine cr_iadd X dX4_moveTo_74 ?_
      refine cr_putG X (cr_a8 E hf) 1 rfl rfl rfl i_X4_moveTo_X4 tyX4 tyX4_ok nmX4 (by decide) k_X4_moveTo_1 rfl rfl rfl (Nat.le_of_ble_eq_true rfl) dX4_moveTo_75 (fun G75_5 => ?_)
      exact cr_vret X rfl rfl dX4_moveTo_78
    · refine cr_aload_n X 0 rfl dX4_moveTo_41 ?_
      refine cr_get X ((cr_a8 E hf).at (cr_row S0 f G 8) rfl) rfl i_X4_moveTo_X4 0 (by decide) k_X4_moveTo_2 rfl dX4_moveTo_42 ?_
      refine cr_iload_n X 3 rfl dX4_moveTo_45 ?_
      refine cr_aload_n X 0 rfl dX4_moveTo_46 ?_
      refine cr_get X ((cr_a8 E hf).at (cr_row S0 f G 8) rfl) rfl i_X4_moveTo_X4 0 (by decide) k_X4_moveTo_2 rfl dX4_moveTo_47 ?_
      refine cr_iload_n X 3 rfl dX4_moveTo_50 ?_
      refine cr_iconst X (1 : Int32) (by decide) dX4_moveTo_51 ?_
      refine cr_isub X dX4_moveTo_52 ?_
      refine cr_iald X ((cr_a9 E hf).at (cr_row S0 f G 9) rfl) dX4_moveTo_53 ?_
      refine cr_iastG X (cr_a9 E hf) (fun _ _ => rfl) dX4_moveTo_54 (fun G54_6 => ?_)
      refine cr_iinc X (x3 + (-1)) (fun v55_7 => [(3, .int v55_7), (0, .ref (E.2.1 f 8)), (1, .int x1), (2, .int x2)]) 3 rfl (congrArg (fun z => x3 + z) (show Int32.ofInt (-1) = (-1 : Int32) by decide)) (fun _ => rfl) (by decide) dX4_moveTo_55 (fun v55_7 => ?_)
      refine cr_goto X 36 dX4_moveTo_58 rfl ?_
      refine cr_sub (lv' := [(0, .ref (E.2.1 f 8)), (1, .int x1), (2, .int x2), (3, .int v55_7)]) [1, 2, 3, 0] rfl ?_
      exact ih x1 x2 v55_7 G54_6
set_option maxHeartbeats 4000000 in
set_option maxRecDepth 100000 in
theorem c_X4_moveTo (l : Launch) (E : cr_E) (hEK : cr_EK E) (S0 : cr_S) {f : Nat} (hf : f < 8) (G : cr_G) (p1 : Int32) (p2 : Int32) : cr_M l E yX4_moveTo wsX4_moveTo rm_X4_moveTo [.ref (E.2.1 f 8), .int p1, .int p2] (cr_us S0 f G) (cr_vVG S0 f) (s_X4_moveTo p1 p2 G) := by
  refine cr_enter (cc := cX4_moveTo) (nL := 4) (rt := none) hEK (by decide) rfl (Nat.le_of_ble_eq_true rfl) (fun Γ hΓ X => ?_)
  subst hΓ
  have X : cr_X Γ E cX4_moveTo 4 RX4 wsX4_moveTo rm_X4_moveTo none := X
  unfold s_X4_moveTo
  show cr_P Γ E 4 _ 0 0 (cr_us S0 f G) 0 ([(0, .ref (E.2.1 f 8)), (1, .int p1), (2, .int p2)]) [] _
  refine cr_aload_n X 0 rfl dX4_moveTo_0 ?_
  refine cr_aload_n X 0 rfl dX4_moveTo_1 ?_
  refine cr_iload_n X 1 rfl dX4_moveTo_2 ?_
  refine cr_callV X (As := [.int p1]) (rest := [.ref (E.2.1 f 8)]) (c_X4_placeOf Γ.2.1 E hEK S0 hf G p1) ((cr_a8 E hf).at (cr_row S0 f G 8) rfl) rfl 1 gX4_moveTo_X4_placeOf rfl rfl rfl (by decide +kernel) ⟨Nat.le_of_ble_eq_true rfl, Nat.le_of_ble_eq_true rfl⟩ (by decide) rfl rfl (Nat.le_of_ble_eq_true rfl) dX4_moveTo_3 (fun r3_1 => ?_)
  show cr_P Γ E 4 _ 0 0 (cr_us S0 f G) 6 ([(0, .ref (E.2.1 f 8)), (1, .int p1), (2, .int p2)]) ([.int r3_1, .ref (E.2.1 f 8)]) _
  refine cr_callV X (As := [.int r3_1]) (rest := []) (c_X4_removeAt Γ.2.1 E hEK S0 hf G r3_1) ((cr_a8 E hf).at (cr_row S0 f G 8) rfl) rfl 1 gX4_moveTo_X4_removeAt rfl rfl rfl (by decide +kernel) ⟨Nat.le_of_ble_eq_true rfl, Nat.le_of_ble_eq_true rfl⟩ (by decide) rfl rfl (Nat.le_of_ble_eq_true rfl) dX4_moveTo_6 (fun r6_2 => ?_)
  show cr_P Γ E 4 _ 0 0 (cr_us S0 f r6_2) 9 ([(0, .ref (E.2.1 f 8)), (1, .int p1), (2, .int p2)]) ([]) _
  refine cr_iload_n X 2 rfl dX4_moveTo_9 ?_
  refine cr_if_lt X 30 dX4_moveTo_10 rfl ?_ ?_
  · exact cr_vret X rfl rfl dX4_moveTo_30
  · refine cr_iload_n X 2 rfl dX4_moveTo_13 ?_
    refine cr_aload_n X 0 rfl dX4_moveTo_14 ?_
    refine cr_get X ((cr_a8 E hf).at (cr_row S0 f r6_2 8) rfl) rfl i_X4_moveTo_X4 1 (by decide) k_X4_moveTo_1 rfl dX4_moveTo_15 ?_
    refine cr_icmp_gt X 30 dX4_moveTo_18 rfl ?_ ?_
    · exact cr_vret X rfl rfl dX4_moveTo_30
    · refine cr_aload_n X 0 rfl dX4_moveTo_21 ?_
      refine cr_get X ((cr_a8 E hf).at (cr_row S0 f r6_2 8) rfl) rfl i_X4_moveTo_X4 1 (by decide) k_X4_moveTo_1 rfl dX4_moveTo_22 ?_
      refine cr_bipush X (10 : Int32) (by decide) dX4_moveTo_25 ?_
      refine cr_icmp_lt X 31 dX4_moveTo_27 rfl ?_ ?_
      · refine cr_aload_n X 0 rfl dX4_moveTo_31 ?_
        refine cr_get X ((cr_a8 E hf).at (cr_row S0 f r6_2 8) rfl) rfl i_X4_moveTo_X4 1 (by decide) k_X4_moveTo_1 rfl dX4_moveTo_32 ?_
        refine cr_istore_nb X (fun v35_3 => [(3, .int v35_3), (0, .ref (E.2.1 f 8)), (1, .int p1), (2, .int p2)]) (fun _ => rfl) (by decide) dX4_moveTo_35 (fun v35_3 => ?_)
        refine cr_sub (lv' := [(0, .ref (E.2.1 f 8)), (1, .int p1), (2, .int p2), (3, .int v35_3)]) [1, 2, 3, 0] rfl ?_
        exact b_X4_moveTo_36 X S0 hf 1200 p1 p2 v35_3 r6_2
      · exact cr_vret X rfl rfl dX4_moveTo_30
theorem c_X4_moveTo_S (l : Launch) (E : cr_E) (hEK : cr_EK E) (S : cr_S) {f : Nat} (hf : f < 8) (p1 : Int32) (p2 : Int32) : cr_M l E yX4_moveTo wsX4_moveTo rm_X4_moveTo [.ref (E.2.1 f 8), .int p1, .int p2] S (cr_vVG S f) (s_X4_moveTo  p1 p2 (S.1 f)) := by
  have h := c_X4_moveTo l E hEK S hf (S.1 f) p1 p2
  rw [cr_us_self] at h
  exact h
theorem k_X5_begin_1 : (Cond.fieldLink RX5 9 "CraneCampaign$Turbine" "place" "I") ∈ wsX5_begin := List.mem_of_getElem? (i := 1) (by rfl)
theorem k_X5_begin_2 : (Cond.fieldLink RX5 15 "CraneCampaign$Turbine" "height" "I") ∈ wsX5_begin := List.mem_of_getElem? (i := 2) (by rfl)
theorem k_X5_begin_3 : (Cond.fieldLink RX5 18 "CraneCampaign$Turbine" "rate" "I") ∈ wsX5_begin := List.mem_of_getElem? (i := 3) (by rfl)
theorem k_X5_begin_4 : (Cond.fieldLink RX5 21 "CraneCampaign$Turbine" "fault" "I") ∈ wsX5_begin := List.mem_of_getElem? (i := 4) (by rfl)
theorem k_X5_begin_5 : (Cond.fieldLink RX5 24 "CraneCampaign$Turbine" "age" "I") ∈ wsX5_begin := List.mem_of_getElem? (i := 5) (by rfl)
theorem k_X5_begin_6 : (Cond.fieldLink RX5 27 "CraneCampaign$Turbine" "lost" "I") ∈ wsX5_begin := List.mem_of_getElem? (i := 6) (by rfl)
theorem k_X5_begin_7 : (Cond.fieldLink RX5 30 "CraneCampaign$Turbine" "won" "I") ∈ wsX5_begin := List.mem_of_getElem? (i := 7) (by rfl)
theorem i_X5_begin_X5 : ∀ w ∈ wsX50, w ∈ wsX5_begin := by decide +kernel
abbrev rm_X5_begin : Room := { frames := 0, cells := 0, slots := 0, locals := 0 }
set_option maxHeartbeats 4000000 in
set_option maxRecDepth 100000 in
theorem c_X5_begin (l : Launch) (E : cr_E) (hEK : cr_EK E) (S0 : cr_S) {f : Nat} (hf : f < 8) {t : Nat} (ht : t < 10) (G : cr_G) (p1 : Int32) (p2 : Int32) (p3 : Int32) : cr_M l E yX5_begin wsX5_begin rm_X5_begin [.ref (E.2.1 f (t + 15)), .int p1, .int p2, .int p3] (cr_us S0 f G) (cr_vVG S0 f) (s_X5_begin t p1 p2 p3 G) := by
  refine cr_enter (cc := cX5_begin) (nL := 4) (rt := none) hEK (by decide) rfl (Nat.le_of_ble_eq_true rfl) (fun Γ hΓ X => ?_)
  subst hΓ
  have X : cr_X Γ E cX5_begin 4 RX5 wsX5_begin rm_X5_begin none := X
  unfold s_X5_begin
  show cr_P Γ E 4 _ 0 0 (cr_us S0 f G) 0 ([(0, .ref (E.2.1 f (t + 15))), (1, .int p1), (2, .int p2), (3, .int p3)]) [] _
  refine cr_aload_n X 0 rfl dX5_begin_0 ?_
  refine cr_iload_n X 1 rfl dX5_begin_1 ?_
  refine cr_putG X (cr_aT E hf ht) 0 rfl rfl rfl i_X5_begin_X5 tyX5 tyX5_ok nmX5 (by decide) k_X5_begin_1 rfl rfl rfl (Nat.le_of_ble_eq_true rfl) dX5_begin_2 (fun G2_1 => ?_)
  refine cr_aload_n X 0 rfl dX5_begin_5 ?_
  refine cr_iload_n X 2 rfl dX5_begin_6 ?_
  refine cr_putG X (cr_aT E hf ht) 1 rfl rfl rfl i_X5_begin_X5 tyX5 tyX5_ok nmX5 (by decide) k_X5_begin_2 rfl rfl rfl (Nat.le_of_ble_eq_true rfl) dX5_begin_7 (fun G7_2 => ?_)
  refine cr_aload_n X 0 rfl dX5_begin_10 ?_
  refine cr_iload_n X 3 rfl dX5_begin_11 ?_
  refine cr_putG X (cr_aT E hf ht) 2 rfl rfl rfl i_X5_begin_X5 tyX5 tyX5_ok nmX5 (by decide) k_X5_begin_3 rfl rfl rfl (Nat.le_of_ble_eq_true rfl) dX5_begin_12 (fun G12_3 => ?_)
  refine cr_aload_n X 0 rfl dX5_begin_15 ?_
  refine cr_iconst X (0 : Int32) (by decide) dX5_begin_16 ?_
  refine cr_putG X (cr_aT E hf ht) 3 rfl rfl rfl i_X5_begin_X5 tyX5 tyX5_ok nmX5 (by decide) k_X5_begin_4 rfl rfl rfl (Nat.le_of_ble_eq_true rfl) dX5_begin_17 (fun G17_4 => ?_)
  refine cr_aload_n X 0 rfl dX5_begin_20 ?_
  refine cr_iconst X (0 : Int32) (by decide) dX5_begin_21 ?_
  refine cr_putG X (cr_aT E hf ht) 4 rfl rfl rfl i_X5_begin_X5 tyX5 tyX5_ok nmX5 (by decide) k_X5_begin_5 rfl rfl rfl (Nat.le_of_ble_eq_true rfl) dX5_begin_22 (fun G22_5 => ?_)
  refine cr_aload_n X 0 rfl dX5_begin_25 ?_
  refine cr_iconst X (0 : Int32) (by decide) dX5_begin_26 ?_
  refine cr_putG X (cr_aT E hf ht) 5 rfl rfl rfl i_X5_begin_X5 tyX5 tyX5_ok nmX5 (by decide) k_X5_begin_6 rfl rfl rfl (Nat.le_of_ble_eq_true rfl) dX5_begin_27 (fun G27_6 => ?_)
  refine cr_aload_n X 0 rfl dX5_begin_30 ?_
  refine cr_iconst X (0 : Int32) (by decide) dX5_begin_31 ?_
  refine cr_putG X (cr_aT E hf ht) 6 rfl rfl rfl i_X5_begin_X5 tyX5 tyX5_ok nmX5 (by decide) k_X5_begin_7 rfl rfl rfl (Nat.le_of_ble_eq_true rfl) dX5_begin_32 (fun G32_7 => ?_)
  exact cr_vret X rfl rfl dX5_begin_35
theorem c_X5_begin_S (l : Launch) (E : cr_E) (hEK : cr_EK E) (S : cr_S) {f : Nat} (hf : f < 8) {t : Nat} (ht : t < 10) (p1 : Int32) (p2 : Int32) (p3 : Int32) : cr_M l E yX5_begin wsX5_begin rm_X5_begin [.ref (E.2.1 f (t + 15)), .int p1, .int p2, .int p3] S (cr_vVG S f) (s_X5_begin t p1 p2 p3 (S.1 f)) := by
  have h := c_X5_begin l E hEK S hf ht (S.1 f) p1 p2 p3
  rw [cr_us_self] at h
  exact h
theorem k_X5_bladeWeight_1 : (Cond.fieldLink RX5 15 "CraneCampaign$Turbine" "height" "I") ∈ wsX5_bladeWeight := List.mem_of_getElem? (i := 1) (by rfl)
theorem i_X5_bladeWeight_X5 : ∀ w ∈ wsX50, w ∈ wsX5_bladeWeight := by decide +kernel
abbrev rm_X5_bladeWeight : Room := { frames := 0, cells := 0, slots := 0, locals := 0 }
set_option maxHeartbeats 4000000 in
set_option maxRecDepth 100000 in
theorem c_X5_bladeWeight (l : Launch) (E : cr_E) (hEK : cr_EK E) (S0 : cr_S) {f : Nat} (hf : f < 8) {t : Nat} (ht : t < 10) (G : cr_G) : cr_M l E yX5_bladeWeight wsX5_bladeWeight rm_X5_bladeWeight [.ref (E.2.1 f (t + 15))] (cr_us S0 f G) (cr_vI (cr_us S0 f G)) (s_X5_bladeWeight t G) := by
  refine cr_enter (cc := cX5_bladeWeight) (nL := 1) (rt := (some .int)) hEK (by decide) rfl (Nat.le_of_ble_eq_true rfl) (fun Γ hΓ X => ?_)
  subst hΓ
  have X : cr_X Γ E cX5_bladeWeight 1 RX5 wsX5_bladeWeight rm_X5_bladeWeight (some .int) := X
  unfold s_X5_bladeWeight
  show cr_P Γ E 1 _ 0 0 (cr_us S0 f G) 0 ([(0, .ref (E.2.1 f (t + 15)))]) [] _
  refine cr_aload_n X 0 rfl dX5_bladeWeight_0 ?_
  refine cr_get X ((cr_aT E hf ht).at (cr_row S0 f G (t + 15)) rfl) rfl i_X5_bladeWeight_X5 1 (by decide) k_X5_bladeWeight_1 rfl dX5_bladeWeight_1 ?_
  refine cr_bipush X (10 : Int32) (by decide) dX5_bladeWeight_4 ?_
  refine cr_idivk X (by decide) dX5_bladeWeight_6 ?_
  exact cr_iret X rfl rfl dX5_bladeWeight_7
theorem c_X5_bladeWeight_S (l : Launch) (E : cr_E) (hEK : cr_EK E) (S : cr_S) {f : Nat} (hf : f < 8) {t : Nat} (ht : t < 10) : cr_M l E yX5_bladeWeight wsX5_bladeWeight rm_X5_bladeWeight [.ref (E.2.1 f (t + 15))] S (cr_vI S) (s_X5_bladeWeight t (S.1 f)) := by
  have h := c_X5_bladeWeight l E hEK S hf ht (S.1 f)
  rw [cr_us_self] at h
  exact h
theorem k_X5_copyFrom_1 : (Cond.fieldLink RX5 9 "CraneCampaign$Turbine" "place" "I") ∈ wsX5_copyFrom := List.mem_of_getElem? (i := 1) (by rfl)
theorem k_X5_copyFrom_2 : (Cond.fieldLink RX5 15 "CraneCampaign$Turbine" "height" "I") ∈ wsX5_copyFrom := List.mem_of_getElem? (i := 2) (by rfl)
theorem k_X5_copyFrom_3 : (Cond.fieldLink RX5 18 "CraneCampaign$Turbine" "rate" "I") ∈ wsX5_copyFrom := List.mem_of_getElem? (i := 3) (by rfl)
theorem k_X5_copyFrom_4 : (Cond.fieldLink RX5 21 "CraneCampaign$Turbine" "fault" "I") ∈ wsX5_copyFrom := List.mem_of_getElem? (i := 4) (by rfl)
theorem k_X5_copyFrom_5 : (Cond.fieldLink RX5 24 "CraneCampaign$Turbine" "age" "I") ∈ wsX5_copyFrom := List.mem_of_getElem? (i := 5) (by rfl)
theorem k_X5_copyFrom_6 : (Cond.fieldLink RX5 27 "CraneCampaign$Turbine" "lost" "I") ∈ wsX5_copyFrom := List.mem_of_getElem? (i := 6) (by rfl)
theorem k_X5_copyFrom_7 : (Cond.fieldLink RX5 30 "CraneCampaign$Turbine" "won" "I") ∈ wsX5_copyFrom := List.mem_of_getElem? (i := 7) (by rfl)
theorem i_X5_copyFrom_X5 : ∀ w ∈ wsX50, w ∈ wsX5_copyFrom := by decide +kernel
abbrev rm_X5_copyFrom : Room := { frames := 0, cells := 0, slots := 0, locals := 0 }
set_option maxHeartbeats 4000000 in
set_option maxRecDepth 100000 in
theorem c_X5_copyFrom (l : Launch) (E : cr_E) (hEK : cr_EK E) (S0 : cr_S) {f : Nat} (hf : f < 8) {t : Nat} (ht : t < 10) {u : Nat} (hu : u < 10) {g : Nat} (hg : g < 8) (hne : g ≠ f) (G : cr_G) : cr_M l E yX5_copyFrom wsX5_copyFrom rm_X5_copyFrom [.ref (E.2.1 f (t + 15)), .ref (E.2.1 g (u + 15))] (cr_us S0 f G) (cr_vVG S0 f) (s_X5_copyFrom t u (S0.1 g) G) := by
  refine cr_enter (cc := cX5_copyFrom) (nL := 2) (rt := none) hEK (by decide) rfl (Nat.le_of_ble_eq_true rfl) (fun Γ hΓ X => ?_)
  subst hΓ
  have X : cr_X Γ E cX5_copyFrom 2 RX5 wsX5_copyFrom rm_X5_copyFrom none := X
  unfold s_X5_copyFrom
  show cr_P Γ E 2 _ 0 0 (cr_us S0 f G) 0 ([(0, .ref (E.2.1 f (t + 15))), (1, .ref (E.2.1 g (u + 15)))]) [] _
  refine cr_aload_n X 0 rfl dX5_copyFrom_0 ?_
  refine cr_aload_n X 1 rfl dX5_copyFrom_1 ?_
  refine cr_get X ((cr_aT E hg hu).at (cr_rowo S0 G hne (u + 15)) rfl) rfl i_X5_copyFrom_X5 0 (by decide) k_X5_copyFrom_1 rfl dX5_copyFrom_2 ?_
  refine cr_putG X (cr_aT E hf ht) 0 rfl rfl rfl i_X5_copyFrom_X5 tyX5 tyX5_ok nmX5 (by decide) k_X5_copyFrom_1 rfl rfl rfl (Nat.le_of_ble_eq_true rfl) dX5_copyFrom_5 (fun G5_1 => ?_)
  refine cr_aload_n X 0 rfl dX5_copyFrom_8 ?_
  refine cr_aload_n X 1 rfl dX5_copyFrom_9 ?_
  refine cr_get X ((cr_aT E hg hu).at (cr_rowo S0 G5_1 hne (u + 15)) rfl) rfl i_X5_copyFrom_X5 1 (by decide) k_X5_copyFrom_2 rfl dX5_copyFrom_10 ?_
  refine cr_putG X (cr_aT E hf ht) 1 rfl rfl rfl i_X5_copyFrom_X5 tyX5 tyX5_ok nmX5 (by decide) k_X5_copyFrom_2 rfl rfl rfl (Nat.le_of_ble_eq_true rfl) dX5_copyFrom_13 (fun G13_2 => ?_)
  refine cr_aload_n X 0 rfl dX5_copyFrom_16 ?_
  refine cr_aload_n X 1 rfl dX5_copyFrom_17 ?_
  refine cr_get X ((cr_aT E hg hu).at (cr_rowo S0 G13_2 hne (u + 15)) rfl) rfl i_X5_copyFrom_X5 2 (by decide) k_X5_copyFrom_3 rfl dX5_copyFrom_18 ?_
  refine cr_putG X (cr_aT E hf ht) 2 rfl rfl rfl i_X5_copyFrom_X5 tyX5 tyX5_ok nmX5 (by decide) k_X5_copyFrom_3 rfl rfl rfl (Nat.le_of_ble_eq_true rfl) dX5_copyFrom_21 (fun G21_3 => ?_)
  refine cr_aload_n X 0 rfl dX5_copyFrom_24 ?_
  refine cr_aload_n X 1 rfl dX5_copyFrom_25 ?_
  refine cr_get X ((cr_aT E hg hu).at (cr_rowo S0 G21_3 hne (u + 15)) rfl) rfl i_X5_copyFrom_X5 3 (by decide) k_X5_copyFrom_4 rfl dX5_copyFrom_26 ?_
  refine cr_putG X (cr_aT E hf ht) 3 rfl rfl rfl i_X5_copyFrom_X5 tyX5 tyX5_ok nmX5 (by decide) k_X5_copyFrom_4 rfl rfl rfl (Nat.le_of_ble_eq_true rfl) dX5_copyFrom_29 (fun G29_4 => ?_)
  refine cr_aload_n X 0 rfl dX5_copyFrom_32 ?_
  refine cr_aload_n X 1 rfl dX5_copyFrom_33 ?_
  refine cr_get X ((cr_aT E hg hu).at (cr_rowo S0 G29_4 hne (u + 15)) rfl) rfl i_X5_copyFrom_X5 4 (by decide) k_X5_copyFrom_5 rfl dX5_copyFrom_34 ?_
  refine cr_putG X (cr_aT E hf ht) 4 rfl rfl rfl i_X5_copyFrom_X5 tyX5 tyX5_ok nmX5 (by decide) k_X5_copyFrom_5 rfl rfl rfl (Nat.le_of_ble_eq_true rfl) dX5_copyFrom_37 (fun G37_5 => ?_)
  refine cr_aload_n X 0 rfl dX5_copyFrom_40 ?_
  refine cr_aload_n X 1 rfl dX5_copyFrom_41 ?_
  refine cr_get X ((cr_aT E hg hu).at (cr_rowo S0 G37_5 hne (u + 15)) rfl) rfl i_X5_copyFrom_X5 5 (by decide) k_X5_copyFrom_6 rfl dX5_copyFrom_42 ?_
  refine cr_putG X (cr_aT E hf ht) 5 rfl rfl rfl i_X5_copyFrom_X5 tyX5 tyX5_ok nmX5 (by decide) k_X5_copyFrom_6 rfl rfl rfl (Nat.le_of_ble_eq_true rfl) dX5_copyFrom_45 (fun G45_6 => ?_)
  refine cr_aload_n X 0 rfl dX5_copyFrom_48 ?_
  refine cr_aload_n X 1 rfl dX5_copyFrom_49 ?_
  refine cr_get X ((cr_aT E hg hu).at (cr_rowo S0 G45_6 hne (u + 15)) rfl) rfl i_X5_copyFrom_X5 6 (by decide) k_X5_copyFrom_7 rfl dX5_copyFrom_50 ?_
  refine cr_putG X (cr_aT E hf ht) 6 rfl rfl rfl i_X5_copyFrom_X5 tyX5 tyX5_ok nmX5 (by decide) k_X5_copyFrom_7 rfl rfl rfl (Nat.le_of_ble_eq_true rfl) dX5_copyFrom_53 (fun G53_7 => ?_)
  exact cr_vret X rfl rfl dX5_copyFrom_56
theorem c_X5_copyFrom_S (l : Launch) (E : cr_E) (hEK : cr_EK E) (S : cr_S) {f : Nat} (hf : f < 8) {t : Nat} (ht : t < 10) {u : Nat} (hu : u < 10) {g : Nat} (hg : g < 8) (hne : g ≠ f) : cr_M l E yX5_copyFrom wsX5_copyFrom rm_X5_copyFrom [.ref (E.2.1 f (t + 15)), .ref (E.2.1 g (u + 15))] S (cr_vVG S f) (s_X5_copyFrom t u (S.1 g)  (S.1 f)) := by
  have h := c_X5_copyFrom l E hEK S hf ht hu hg hne (S.1 f)
  rw [cr_us_self] at h
  exact h
theorem k_X5_fullPower_1 : (Cond.fieldLink RX5 18 "CraneCampaign$Turbine" "rate" "I") ∈ wsX5_fullPower := List.mem_of_getElem? (i := 1) (by rfl)
theorem k_X5_fullPower_2 : (Cond.methodLink RX5 33 Lib.Math.min.name) ∈ wsX5_fullPower := List.mem_of_getElem? (i := 2) (by rfl)
theorem k_X5_fullPower_3 : (Cond.static Lib.Math.min.name) ∈ wsX5_fullPower := List.mem_of_getElem? (i := 3) (by rfl)
theorem k_X5_fullPower_4 : (Cond.initialized "java/lang/Math") ∈ wsX5_fullPower := List.mem_of_getElem? (i := 4) (by rfl)
theorem k_X5_fullPower_5 : (Cond.code Lib.Math.min.name Lib.Math.min.code 2 (some .int)) ∈ wsX5_fullPower := List.mem_of_getElem? (i := 5) (by rfl)
theorem i_X5_fullPower_X5 : ∀ w ∈ wsX50, w ∈ wsX5_fullPower := by decide +kernel
abbrev rm_X5_fullPower : Room := { frames := 1, cells := 0, slots := 0, locals := 24 }
set_option maxHeartbeats 4000000 in
set_option maxRecDepth 100000 in
theorem c_X5_fullPower (l : Launch) (E : cr_E) (hEK : cr_EK E) (S0 : cr_S) {f : Nat} (hf : f < 8) {t : Nat} (ht : t < 10) (G : cr_G) (p1 : Int32) : cr_M l E yX5_fullPower wsX5_fullPower rm_X5_fullPower [.ref (E.2.1 f (t + 15)), .int p1] (cr_us S0 f G) (cr_vI (cr_us S0 f G)) (s_X5_fullPower t G p1) := by
  refine cr_enter (cc := cX5_fullPower) (nL := 2) (rt := (some .int)) hEK (by decide) rfl (Nat.le_of_ble_eq_true rfl) (fun Γ hΓ X => ?_)
  subst hΓ
  have X : cr_X Γ E cX5_fullPower 2 RX5 wsX5_fullPower rm_X5_fullPower (some .int) := X
  unfold s_X5_fullPower
  show cr_P Γ E 2 _ 0 0 (cr_us S0 f G) 0 ([(0, .ref (E.2.1 f (t + 15))), (1, .int p1)]) [] _
  refine cr_iload_n X 1 rfl dX5_fullPower_0 ?_
  refine cr_iconst X (3 : Int32) (by decide) dX5_fullPower_1 ?_
  refine cr_icmp_lt X 11 dX5_fullPower_2 rfl ?_ ?_
  · refine cr_iconst X (0 : Int32) (by decide) dX5_fullPower_11 ?_
    refine cr_goto X 29 dX5_fullPower_12 rfl ?_
    exact cr_iret X rfl rfl dX5_fullPower_29
  · refine cr_iload_n X 1 rfl dX5_fullPower_5 ?_
    refine cr_bipush X (25 : Int32) (by decide) dX5_fullPower_6 ?_
    refine cr_icmp_le X 15 dX5_fullPower_8 rfl ?_ ?_
    · refine cr_aload_n X 0 rfl dX5_fullPower_15 ?_
      refine cr_get X ((cr_aT E hf ht).at (cr_row S0 f G (t + 15)) rfl) rfl i_X5_fullPower_X5 2 (by decide) k_X5_fullPower_1 rfl dX5_fullPower_16 ?_
      refine cr_iload_n X 1 rfl dX5_fullPower_19 ?_
      refine cr_bipush X (12 : Int32) (by decide) dX5_fullPower_20 ?_
      refine cr_mmin X k_X5_fullPower_2 k_X5_fullPower_3 k_X5_fullPower_4 k_X5_fullPower_5 (by decide) (Nat.le_of_ble_eq_true rfl) (by decide) dX5_fullPower_22 ?_
      refine cr_imul X dX5_fullPower_25 ?_
      refine cr_bipush X (12 : Int32) (by decide) dX5_fullPower_26 ?_
      refine cr_idivk X (by decide) dX5_fullPower_28 ?_
      exact cr_iret X rfl rfl dX5_fullPower_29
    · refine cr_iconst X (0 : Int32) (by decide) dX5_fullPower_11 ?_
      refine cr_goto X 29 dX5_fullPower_12 rfl ?_
      exact cr_iret X rfl rfl dX5_fullPower_29
theorem c_X5_fullPower_S (l : Launch) (E : cr_E) (hEK : cr_EK E) (S : cr_S) {f : Nat} (hf : f < 8) {t : Nat} (ht : t < 10) (p1 : Int32) : cr_M l E yX5_fullPower wsX5_fullPower rm_X5_fullPower [.ref (E.2.1 f (t + 15)), .int p1] S (cr_vI S) (s_X5_fullPower t (S.1 f) p1) := by
  have h := c_X5_fullPower l E hEK S hf ht (S.1 f) p1
  rw [cr_us_self] at h
  exact h
theorem k_X5_growOlder_1 : (Cond.fieldLink RX5 21 "CraneCampaign$Turbine" "fault" "I") ∈ wsX5_growOlder := List.mem_of_getElem? (i := 1) (by rfl)
theorem k_X5_growOlder_2 : (Cond.fieldLink RX5 24 "CraneCampaign$Turbine" "age" "I") ∈ wsX5_growOlder := List.mem_of_getElem? (i := 2) (by rfl)
theorem i_X5_growOlder_X5 : ∀ w ∈ wsX50, w ∈ wsX5_growOlder := by decide +kernel
abbrev rm_X5_growOlder : Room := { frames := 0, cells := 0, slots := 0, locals := 0 }
set_option maxHeartbeats 4000000 in
set_option maxRecDepth 100000 in
theorem c_X5_growOlder (l : Launch) (E : cr_E) (hEK : cr_EK E) (S0 : cr_S) {f : Nat} (hf : f < 8) {t : Nat} (ht : t < 10) (G : cr_G) (p1 : Int32) : cr_M l E yX5_growOlder wsX5_growOlder rm_X5_growOlder [.ref (E.2.1 f (t + 15)), .int p1] (cr_us S0 f G) (cr_vVG S0 f) (s_X5_growOlder t p1 G) := by
  refine cr_enter (cc := cX5_growOlder) (nL := 2) (rt := none) hEK (by decide) rfl (Nat.le_of_ble_eq_true rfl) (fun Γ hΓ X => ?_)
  subst hΓ
  have X : cr_X Γ E cX5_growOlder 2 RX5 wsX5_growOlder rm_X5_growOlder none := X
  unfold s_X5_growOlder
  show cr_P Γ E 2 _ 0 0 (cr_us S0 f G) 0 ([(0, .ref (E.2.1 f (t + 15))), (1, .int p1)]) [] _
  refine cr_aload_n X 0 rfl dX5_growOlder_0 ?_
  refine cr_get X ((cr_aT E hf ht).at (cr_row S0 f G (t + 15)) rfl) rfl i_X5_growOlder_X5 3 (by decide) k_X5_growOlder_1 rfl dX5_growOlder_1 ?_
  refine cr_if_eq X 15 dX5_growOlder_4 rfl ?_ ?_
  · exact cr_vret X rfl rfl dX5_growOlder_15
  · refine cr_aload_n X 0 rfl dX5_growOlder_7 ?_
    refine cr_get X ((cr_aT E hf ht).at (cr_row S0 f G (t + 15)) rfl) rfl i_X5_growOlder_X5 3 (by decide) k_X5_growOlder_1 rfl dX5_growOlder_8 ?_
    refine cr_iconst X (4 : Int32) (by decide) dX5_growOlder_11 ?_
    refine cr_icmp_ne X 16 dX5_growOlder_12 rfl ?_ ?_
    · refine cr_aload_n X 0 rfl dX5_growOlder_16 ?_
      refine cr_dup X rfl dX5_growOlder_17 ?_
      refine cr_get X ((cr_aT E hf ht).at (cr_row S0 f G (t + 15)) rfl) rfl i_X5_growOlder_X5 4 (by decide) k_X5_growOlder_2 rfl dX5_growOlder_18 ?_
      refine cr_iconst X (1 : Int32) (by decide) dX5_growOlder_21 ?_
      refine cr_iadd X dX5_growOlder_22 ?_
      refine cr_putG X (cr_aT E hf ht) 4 rfl rfl rfl i_X5_growOlder_X5 tyX5 tyX5_ok nmX5 (by decide) k_X5_growOlder_2 rfl rfl rfl (Nat.le_of_ble_eq_true rfl) dX5_growOlder_23 (fun G23_1 => ?_)
      refine cr_aload_n X 0 rfl dX5_growOlder_26 ?_
      refine cr_get X ((cr_aT E hf ht).at (cr_row S0 f G23_1 (t + 15)) rfl) rfl i_X5_growOlder_X5 4 (by decide) k_X5_growOlder_2 rfl dX5_growOlder_27 ?_
      refine cr_iload_n X 1 rfl dX5_growOlder_30 ?_
      refine cr_icmp_lt X 49 dX5_growOlder_31 rfl ?_ ?_
      · exact cr_vret X rfl rfl dX5_growOlder_49
      · refine cr_aload_n X 0 rfl dX5_growOlder_34 ?_
        refine cr_dup X rfl dX5_growOlder_35 ?_
        refine cr_get X ((cr_aT E hf ht).at (cr_row S0 f G23_1 (t + 15)) rfl) rfl i_X5_growOlder_X5 3 (by decide) k_X5_growOlder_1 rfl dX5_growOlder_36 ?_
        refine cr_iconst X (1 : Int32) (by decide) dX5_growOlder_39 ?_
        refine cr_iadd X dX5_growOlder_40 ?_
        refine cr_putG X (cr_aT E hf ht) 3 rfl rfl rfl i_X5_growOlder_X5 tyX5 tyX5_ok nmX5 (by decide) k_X5_growOlder_1 rfl rfl rfl (Nat.le_of_ble_eq_true rfl) dX5_growOlder_41 (fun G41_2 => ?_)
        refine cr_aload_n X 0 rfl dX5_growOlder_44 ?_
        refine cr_iconst X (0 : Int32) (by decide) dX5_growOlder_45 ?_
        refine cr_putG X (cr_aT E hf ht) 4 rfl rfl rfl i_X5_growOlder_X5 tyX5 tyX5_ok nmX5 (by decide) k_X5_growOlder_2 rfl rfl rfl (Nat.le_of_ble_eq_true rfl) dX5_growOlder_46 (fun G46_3 => ?_)
        exact cr_vret X rfl rfl dX5_growOlder_49
    · exact cr_vret X rfl rfl dX5_growOlder_15
theorem c_X5_growOlder_S (l : Launch) (E : cr_E) (hEK : cr_EK E) (S : cr_S) {f : Nat} (hf : f < 8) {t : Nat} (ht : t < 10) (p1 : Int32) : cr_M l E yX5_growOlder wsX5_growOlder rm_X5_growOlder [.ref (E.2.1 f (t + 15)), .int p1] S (cr_vVG S f) (s_X5_growOlder t p1 (S.1 f)) := by
  have h := c_X5_growOlder l E hEK S hf ht (S.1 f) p1
  rw [cr_us_self] at h
  exact h
theorem k_X5_limit_1 : (Cond.fieldLink RX5 15 "CraneCampaign$Turbine" "height" "I") ∈ wsX5_limit := List.mem_of_getElem? (i := 1) (by rfl)
theorem i_X5_limit_X5 : ∀ w ∈ wsX50, w ∈ wsX5_limit := by decide +kernel
abbrev rm_X5_limit : Room := { frames := 0, cells := 0, slots := 0, locals := 0 }
set_option maxHeartbeats 4000000 in
set_option maxRecDepth 100000 in
theorem c_X5_limit (l : Launch) (E : cr_E) (hEK : cr_EK E) (S0 : cr_S) {f : Nat} (hf : f < 8) {t : Nat} (ht : t < 10) (G : cr_G) (p1 : Int32) : cr_M l E yX5_limit wsX5_limit rm_X5_limit [.ref (E.2.1 f (t + 15)), .int p1] (cr_us S0 f G) (cr_vI (cr_us S0 f G)) (s_X5_limit t G p1) := by
  refine cr_enter (cc := cX5_limit) (nL := 2) (rt := (some .int)) hEK (by decide) rfl (Nat.le_of_ble_eq_true rfl) (fun Γ hΓ X => ?_)
  subst hΓ
  have X : cr_X Γ E cX5_limit 2 RX5 wsX5_limit rm_X5_limit (some .int) := X
  unfold s_X5_limit
  show cr_P Γ E 2 _ 0 0 (cr_us S0 f G) 0 ([(0, .ref (E.2.1 f (t + 15))), (1, .int p1)]) [] _
  refine cr_iload_n X 1 rfl dX5_limit_0 ?_
  refine cr_aload_n X 0 rfl dX5_limit_1 ?_
  refine cr_get X ((cr_aT E hf ht).at (cr_row S0 f G (t + 15)) rfl) rfl i_X5_limit_X5 1 (by decide) k_X5_limit_1 rfl dX5_limit_2 ?_
  refine cr_bipush X (25 : Int32) (by decide) dX5_limit_5 ?_
  refine cr_idivk X (by decide) dX5_limit_7 ?_
  refine cr_isub X dX5_limit_8 ?_
  exact cr_iret X rfl rfl dX5_limit_9
theorem c_X5_limit_S (l : Launch) (E : cr_E) (hEK : cr_EK E) (S : cr_S) {f : Nat} (hf : f < 8) {t : Nat} (ht : t < 10) (p1 : Int32) : cr_M l E yX5_limit wsX5_limit rm_X5_limit [.ref (E.2.1 f (t + 15)), .int p1] S (cr_vI S) (s_X5_limit t (S.1 f) p1) := by
  have h := c_X5_limit l E hEK S hf ht (S.1 f) p1
  rw [cr_us_self] at h
  exact h
theorem k_X7_add_1 : (Cond.fieldLink RX7 15 "CraneCampaign$Winds" "count" "I") ∈ wsX7_add := List.mem_of_getElem? (i := 1) (by rfl)
theorem k_X7_add_2 : (Cond.fieldLink RX7 9 "CraneCampaign$Winds" "row" "[I") ∈ wsX7_add := List.mem_of_getElem? (i := 2) (by rfl)
theorem i_X7_add_X7 : ∀ w ∈ wsX70, w ∈ wsX7_add := by decide +kernel
abbrev rm_X7_add : Room := { frames := 0, cells := 0, slots := 0, locals := 0 }
set_option maxHeartbeats 4000000 in
set_option maxRecDepth 100000 in
theorem c_X7_add (l : Launch) (E : cr_E) (hEK : cr_EK E) (S0 : cr_S) {f : Nat} (hf : f < 8) (G : cr_G) (p1 : Int32) : cr_M l E yX7_add wsX7_add rm_X7_add [.ref (E.2.1 f 11), .int p1] (cr_us S0 f G) (cr_vVG S0 f) (s_X7_add p1 G) := by
  refine cr_enter (cc := cX7_add) (nL := 2) (rt := none) hEK (by decide) rfl (Nat.le_of_ble_eq_true rfl) (fun Γ hΓ X => ?_)
  subst hΓ
  have X : cr_X Γ E cX7_add 2 RX7 wsX7_add rm_X7_add none := X
  unfold s_X7_add
  show cr_P Γ E 2 _ 0 0 (cr_us S0 f G) 0 ([(0, .ref (E.2.1 f 11)), (1, .int p1)]) [] _
  refine cr_aload_n X 0 rfl dX7_add_0 ?_
  refine cr_get X ((cr_a11 E hf).at (cr_row S0 f G 11) rfl) rfl i_X7_add_X7 1 (by decide) k_X7_add_1 rfl dX7_add_1 ?_
  refine cr_bipush X (48 : Int32) (by decide) dX7_add_4 ?_
  refine cr_icmp_ge X 29 dX7_add_6 rfl ?_ ?_
  · exact cr_vret X rfl rfl dX7_add_29
  · refine cr_aload_n X 0 rfl dX7_add_9 ?_
    refine cr_get X ((cr_a11 E hf).at (cr_row S0 f G 11) rfl) rfl i_X7_add_X7 0 (by decide) k_X7_add_2 rfl dX7_add_10 ?_
    refine cr_aload_n X 0 rfl dX7_add_13 ?_
    refine cr_get X ((cr_a11 E hf).at (cr_row S0 f G 11) rfl) rfl i_X7_add_X7 1 (by decide) k_X7_add_1 rfl dX7_add_14 ?_
    refine cr_iload_n X 1 rfl dX7_add_17 ?_
    refine cr_iastG X (cr_a12 E hf) (fun _ _ => rfl) dX7_add_18 (fun G18_1 => ?_)
    refine cr_aload_n X 0 rfl dX7_add_19 ?_
    refine cr_dup X rfl dX7_add_20 ?_
    refine cr_get X ((cr_a11 E hf).at (cr_row S0 f G18_1 11) rfl) rfl i_X7_add_X7 1 (by decide) k_X7_add_1 rfl dX7_add_21 ?_
    refine cr_iconst X (1 : Int32) (by decide) dX7_add_24 ?_
    refine cr_iadd X dX7_add_25 ?_
    refine cr_putG X (cr_a11 E hf) 1 rfl rfl rfl i_X7_add_X7 tyX7 tyX7_ok nmX7 (by decide) k_X7_add_1 rfl rfl rfl (Nat.le_of_ble_eq_true rfl) dX7_add_26 (fun G26_2 => ?_)
    exact cr_vret X rfl rfl dX7_add_29
theorem c_X7_add_S (l : Launch) (E : cr_E) (hEK : cr_EK E) (S : cr_S) {f : Nat} (hf : f < 8) (p1 : Int32) : cr_M l E yX7_add wsX7_add rm_X7_add [.ref (E.2.1 f 11), .int p1] S (cr_vVG S f) (s_X7_add  p1 (S.1 f)) := by
  have h := c_X7_add l E hEK S hf (S.1 f) p1
  rw [cr_us_self] at h
  exact h
theorem k_X7_at_1 : (Cond.fieldLink RX7 15 "CraneCampaign$Winds" "count" "I") ∈ wsX7_at := List.mem_of_getElem? (i := 1) (by rfl)
theorem k_X7_at_2 : (Cond.fieldLink RX7 9 "CraneCampaign$Winds" "row" "[I") ∈ wsX7_at := List.mem_of_getElem? (i := 2) (by rfl)
theorem i_X7_at_X7 : ∀ w ∈ wsX70, w ∈ wsX7_at := by decide +kernel
abbrev rm_X7_at : Room := { frames := 0, cells := 0, slots := 0, locals := 0 }
set_option maxHeartbeats 4000000 in
set_option maxRecDepth 100000 in
theorem c_X7_at (l : Launch) (E : cr_E) (hEK : cr_EK E) (S0 : cr_S) {f : Nat} (hf : f < 8) (G : cr_G) (p1 : Int32) : cr_M l E yX7_at wsX7_at rm_X7_at [.ref (E.2.1 f 11), .int p1] (cr_us S0 f G) (cr_vI (cr_us S0 f G)) (s_X7_at G p1) := by
  refine cr_enter (cc := cX7_at) (nL := 2) (rt := (some .int)) hEK (by decide) rfl (Nat.le_of_ble_eq_true rfl) (fun Γ hΓ X => ?_)
  subst hΓ
  have X : cr_X Γ E cX7_at 2 RX7 wsX7_at rm_X7_at (some .int) := X
  unfold s_X7_at
  show cr_P Γ E 2 _ 0 0 (cr_us S0 f G) 0 ([(0, .ref (E.2.1 f 11)), (1, .int p1)]) [] _
  refine cr_aload_n X 0 rfl dX7_at_0 ?_
  refine cr_get X ((cr_a11 E hf).at (cr_row S0 f G 11) rfl) rfl i_X7_at_X7 1 (by decide) k_X7_at_1 rfl dX7_at_1 ?_
  refine cr_if_le X 25 dX7_at_4 rfl ?_ ?_
  · refine cr_bipush X (8 : Int32) (by decide) dX7_at_25 ?_
    exact cr_iret X rfl rfl dX7_at_27
  · refine cr_iload_n X 1 rfl dX7_at_7 ?_
    refine cr_if_lt X 25 dX7_at_8 rfl ?_ ?_
    · refine cr_bipush X (8 : Int32) (by decide) dX7_at_25 ?_
      exact cr_iret X rfl rfl dX7_at_27
    · refine cr_aload_n X 0 rfl dX7_at_11 ?_
      refine cr_get X ((cr_a11 E hf).at (cr_row S0 f G 11) rfl) rfl i_X7_at_X7 0 (by decide) k_X7_at_2 rfl dX7_at_12 ?_
      refine cr_iload_n X 1 rfl dX7_at_15 ?_
      refine cr_aload_n X 0 rfl dX7_at_16 ?_
      refine cr_get X ((cr_a11 E hf).at (cr_row S0 f G 11) rfl) rfl i_X7_at_X7 1 (by decide) k_X7_at_1 rfl dX7_at_17 ?_
      refine cr_irem X dX7_at_20 ?_
      refine cr_iald X ((cr_a12 E hf).at (cr_row S0 f G 12) rfl) dX7_at_21 ?_
      refine cr_goto X 27 dX7_at_22 rfl ?_
      exact cr_iret X rfl rfl dX7_at_27
theorem c_X7_at_S (l : Launch) (E : cr_E) (hEK : cr_EK E) (S : cr_S) {f : Nat} (hf : f < 8) (p1 : Int32) : cr_M l E yX7_at wsX7_at rm_X7_at [.ref (E.2.1 f 11), .int p1] S (cr_vI S) (s_X7_at (S.1 f) p1) := by
  have h := c_X7_at l E hEK S hf (S.1 f) p1
  rw [cr_us_self] at h
  exact h
theorem k_X7_copyFrom_1 : (Cond.fieldLink RX7 9 "CraneCampaign$Winds" "row" "[I") ∈ wsX7_copyFrom := List.mem_of_getElem? (i := 1) (by rfl)
theorem k_X7_copyFrom_2 : (Cond.methodLink RX7 19 arraycopyName) ∈ wsX7_copyFrom := List.mem_of_getElem? (i := 2) (by rfl)
theorem k_X7_copyFrom_3 : (Cond.native arraycopyName) ∈ wsX7_copyFrom := List.mem_of_getElem? (i := 3) (by rfl)
theorem k_X7_copyFrom_4 : (Cond.static arraycopyName) ∈ wsX7_copyFrom := List.mem_of_getElem? (i := 4) (by rfl)
theorem k_X7_copyFrom_5 : (Cond.initialized "java/lang/System") ∈ wsX7_copyFrom := List.mem_of_getElem? (i := 5) (by rfl)
theorem k_X7_copyFrom_6 : (Cond.fieldLink RX7 15 "CraneCampaign$Winds" "count" "I") ∈ wsX7_copyFrom := List.mem_of_getElem? (i := 6) (by rfl)
theorem i_X7_copyFrom_X7 : ∀ w ∈ wsX70, w ∈ wsX7_copyFrom := by decide +kernel
abbrev rm_X7_copyFrom : Room := { frames := 1, cells := 0, slots := 0, locals := 40 }
set_option maxHeartbeats 4000000 in
set_option maxRecDepth 100000 in
theorem c_X7_copyFrom (l : Launch) (E : cr_E) (hEK : cr_EK E) (S0 : cr_S) {f : Nat} (hf : f < 8) {g : Nat} (hg : g < 8) (hne : g ≠ f) (G : cr_G) : cr_M l E yX7_copyFrom wsX7_copyFrom rm_X7_copyFrom [.ref (E.2.1 f 11), .ref (E.2.1 g 11)] (cr_us S0 f G) (cr_vVG S0 f) (s_X7_copyFrom (S0.1 g) G) := by
  refine cr_enter (cc := cX7_copyFrom) (nL := 2) (rt := none) hEK (by decide) rfl (Nat.le_of_ble_eq_true rfl) (fun Γ hΓ X => ?_)
  subst hΓ
  have X : cr_X Γ E cX7_copyFrom 2 RX7 wsX7_copyFrom rm_X7_copyFrom none := X
  unfold s_X7_copyFrom
  show cr_P Γ E 2 _ 0 0 (cr_us S0 f G) 0 ([(0, .ref (E.2.1 f 11)), (1, .ref (E.2.1 g 11))]) [] _
  refine cr_aload_n X 1 rfl dX7_copyFrom_0 ?_
  refine cr_get X ((cr_a11 E hg).at (cr_rowo S0 G hne 11) rfl) rfl i_X7_copyFrom_X7 0 (by decide) k_X7_copyFrom_1 rfl dX7_copyFrom_1 ?_
  refine cr_iconst X (0 : Int32) (by decide) dX7_copyFrom_4 ?_
  refine cr_aload_n X 0 rfl dX7_copyFrom_5 ?_
  refine cr_get X ((cr_a11 E hf).at (cr_row S0 f G 11) rfl) rfl i_X7_copyFrom_X7 0 (by decide) k_X7_copyFrom_1 rfl dX7_copyFrom_6 ?_
  refine cr_iconst X (0 : Int32) (by decide) dX7_copyFrom_9 ?_
  refine cr_bipush X (48 : Int32) (by decide) dX7_copyFrom_10 ?_
  refine cr_acopyG X ((S0.1 g) 12) ((cr_a12 E hg).at (cr_rowo S0 G hne 12) rfl) (cr_a12 E hf) (fun _ _ => rfl) 0 0 48 (by decide) (by decide) k_X7_copyFrom_2 k_X7_copyFrom_3 k_X7_copyFrom_4 k_X7_copyFrom_5 (by decide) (by decide +kernel) dX7_copyFrom_12 (fun G12_1 => ?_)
  refine cr_aload_n X 0 rfl dX7_copyFrom_15 ?_
  refine cr_aload_n X 1 rfl dX7_copyFrom_16 ?_
  refine cr_get X ((cr_a11 E hg).at (cr_rowo S0 G12_1 hne 11) rfl) rfl i_X7_copyFrom_X7 1 (by decide) k_X7_copyFrom_6 rfl dX7_copyFrom_17 ?_
  refine cr_putG X (cr_a11 E hf) 1 rfl rfl rfl i_X7_copyFrom_X7 tyX7 tyX7_ok nmX7 (by decide) k_X7_copyFrom_6 rfl rfl rfl (Nat.le_of_ble_eq_true rfl) dX7_copyFrom_20 (fun G20_2 => ?_)
  exact cr_vret X rfl rfl dX7_copyFrom_23
theorem c_X7_copyFrom_S (l : Launch) (E : cr_E) (hEK : cr_EK E) (S : cr_S) {f : Nat} (hf : f < 8) {g : Nat} (hg : g < 8) (hne : g ≠ f) : cr_M l E yX7_copyFrom wsX7_copyFrom rm_X7_copyFrom [.ref (E.2.1 f 11), .ref (E.2.1 g 11)] S (cr_vVG S f) (s_X7_copyFrom (S.1 g)  (S.1 f)) := by
  have h := c_X7_copyFrom l E hEK S hf hg hne (S.1 f)
  rw [cr_us_self] at h
  exact h
theorem k_X7_sum_1 : (Cond.fieldLink RX7 15 "CraneCampaign$Winds" "count" "I") ∈ wsX7_sum := List.mem_of_getElem? (i := 1) (by rfl)
theorem k_X7_sum_2 : (Cond.fieldLink RX7 9 "CraneCampaign$Winds" "row" "[I") ∈ wsX7_sum := List.mem_of_getElem? (i := 2) (by rfl)
theorem i_X7_sum_X7 : ∀ w ∈ wsX70, w ∈ wsX7_sum := by decide +kernel
abbrev rm_X7_sum : Room := { frames := 0, cells := 0, slots := 0, locals := 0 }
set_option maxHeartbeats 4000000 in
set_option maxRecDepth 100000 in
theorem b_X7_sum_4 {Γ : cr_C} {E : cr_E} (X : cr_X Γ E cX7_sum 3 RX7 wsX7_sum rm_X7_sum (some .int)) (S0 : cr_S) {f : Nat} (hf : f < 8) (G : cr_G) : ∀ (n : Nat) (x1 : Int32) (x2 : Int32), cr_P Γ E 3 (cr_F Γ E (cr_vI (cr_us S0 f G))) 0 0 (cr_us S0 f G) 4 ([(0, .ref (E.2.1 f 11)), (1, .int x1), (2, .int x2)]) ([]) (s_X7_sum_4 G n x1 x2) := by
  have hEK := X.2.2.2.2.2.2.1
  intro n
  induction n with
  | zero => intro x1 x2; exact cr_none
  | succ n ih =>
    intro x1 x2
    rw [s_X7_sum_4]
    refine cr_iload_n X 2 rfl dX7_sum_4 ?_
    refine cr_aload_n X 0 rfl dX7_sum_5 ?_
    refine cr_get X ((cr_a11 E hf).at (cr_row S0 f G 11) rfl) rfl i_X7_sum_X7 1 (by decide) k_X7_sum_1 rfl dX7_sum_6 ?_
    refine cr_icmp_ge X 27 dX7_sum_9 rfl ?_ ?_
    · refine cr_iload_n X 1 rfl dX7_sum_27 ?_
      exact cr_iret X rfl rfl dX7_sum_28
    · refine cr_iload_n X 1 rfl dX7_sum_12 ?_
      refine cr_aload_n X 0 rfl dX7_sum_13 ?_
      refine cr_get X ((cr_a11 E hf).at (cr_row S0 f G 11) rfl) rfl i_X7_sum_X7 0 (by decide) k_X7_sum_2 rfl dX7_sum_14 ?_
      refine cr_iload_n X 2 rfl dX7_sum_17 ?_
      refine cr_iald X ((cr_a12 E hf).at (cr_row S0 f G 12) rfl) dX7_sum_18 ?_
      refine cr_iadd X dX7_sum_19 ?_
      refine cr_istore_nb X (fun v20_1 => [(1, .int v20_1), (0, .ref (E.2.1 f 11)), (2, .int x2)]) (fun _ => rfl) (by decide) dX7_sum_20 (fun v20_1 => ?_)
      refine cr_iinc X (x2 + 1) (fun v21_2 => [(2, .int v21_2), (1, .int v20_1), (0, .ref (E.2.1 f 11))]) 2 rfl rfl (fun _ => rfl) (by decide) dX7_sum_21 (fun v21_2 => ?_)
      refine cr_goto X 4 dX7_sum_24 rfl ?_
      refine cr_sub (lv' := [(0, .ref (E.2.1 f 11)), (1, .int v20_1), (2, .int v21_2)]) [2, 1, 0] rfl ?_
      exact ih v20_1 v21_2
set_option maxHeartbeats 4000000 in
set_option maxRecDepth 100000 in
theorem c_X7_sum (l : Launch) (E : cr_E) (hEK : cr_EK E) (S0 : cr_S) {f : Nat} (hf : f < 8) (G : cr_G) : cr_M l E yX7_sum wsX7_sum rm_X7_sum [.ref (E.2.1 f 11)] (cr_us S0 f G) (cr_vI (cr_us S0 f G)) (s_X7_sum G) := by
  refine cr_enter (cc := cX7_sum) (nL := 3) (rt := (some .int)) hEK (by decide) rfl (Nat.le_of_ble_eq_true rfl) (fun Γ hΓ X => ?_)
  subst hΓ
  have X : cr_X Γ E cX7_sum 3 RX7 wsX7_sum rm_X7_sum (some .int) := X
  unfold s_X7_sum
  show cr_P Γ E 3 _ 0 0 (cr_us S0 f G) 0 ([(0, .ref (E.2.1 f 11))]) [] _
  refine cr_iconst X (0 : Int32) (by decide) dX7_sum_0 ?_
  refine cr_istore_n X ([(1, .int ((0 : Int32))), (0, .ref (E.2.1 f 11))]) rfl (by decide) dX7_sum_1 ?_
  refine cr_iconst X (0 : Int32) (by decide) dX7_sum_2 ?_
  refine cr_istore_n X ([(2, .int ((0 : Int32))), (1, .int ((0 : Int32))), (0, .ref (E.2.1 f 11))]) rfl (by decide) dX7_sum_3 ?_
  refine cr_sub (lv' := [(0, .ref (E.2.1 f 11)), (1, .int ((0 : Int32))), (2, .int ((0 : Int32)))]) [2, 1, 0] rfl ?_
  exact b_X7_sum_4 X S0 hf G 1200 ((0 : Int32)) ((0 : Int32))
theorem c_X7_sum_S (l : Launch) (E : cr_E) (hEK : cr_EK E) (S : cr_S) {f : Nat} (hf : f < 8) : cr_M l E yX7_sum wsX7_sum rm_X7_sum [.ref (E.2.1 f 11)] S (cr_vI S) (s_X7_sum (S.1 f)) := by
  have h := c_X7_sum l E hEK S hf (S.1 f)
  rw [cr_us_self] at h
  exact h
