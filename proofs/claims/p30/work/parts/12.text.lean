theorem k_X6_isFull_1 : (Cond.fieldLink RX6 15 "CraneCampaign$WindText" "length" "I") ∈ wsX6_isFull := List.mem_of_getElem? (i := 1) (by rfl)
theorem i_X6_isFull_X6 : ∀ w ∈ wsX60, w ∈ wsX6_isFull := by decide +kernel
abbrev rm_X6_isFull : Room := { frames := 0, cells := 0, slots := 0, locals := 0 }
set_option maxHeartbeats 4000000 in
set_option maxRecDepth 100000 in
theorem c_X6_isFull (l : Launch) (E : cr_E) (hEK : cr_EK E) (S0 : cr_S) (G : cr_G) : cr_M l E yX6_isFull wsX6_isFull rm_X6_isFull [.ref (E.2.1 8 2)] (cr_us S0 8 G) (cr_vB (cr_us S0 8 G)) (s_X6_isFull G) := by
  refine cr_enter (cc := cX6_isFull) (nL := 1) (rt := (some .boolean)) hEK (by decide) rfl (Nat.le_of_ble_eq_true rfl) (fun Γ hΓ X => ?_)
  subst hΓ
  have X : cr_X Γ E cX6_isFull 1 RX6 wsX6_isFull rm_X6_isFull (some .boolean) := X
  unfold s_X6_isFull
  show cr_P Γ E 1 _ 0 0 (cr_us S0 8 G) 0 ([(0, .ref (E.2.1 8 2))]) [] _
  refine cr_aload_n X 0 rfl dX6_isFull_0 ?_
  refine cr_get X ((cr_b2 E).at (cr_row S0 8 G 2) rfl) rfl i_X6_isFull_X6 1 (by decide) k_X6_isFull_1 rfl dX6_isFull_1 ?_
  refine cr_bipush X (60 : Int32) (by decide) dX6_isFull_4 ?_
  refine cr_icmp_lt X 13 dX6_isFull_6 rfl ?_ ?_
  · refine cr_iconst X (0 : Int32) (by decide) dX6_isFull_13 ?_
    exact cr_zret X false rfl rfl rfl dX6_isFull_14
  · refine cr_iconst X (1 : Int32) (by decide) dX6_isFull_9 ?_
    refine cr_goto X 14 dX6_isFull_10 rfl ?_
    exact cr_zret X true rfl rfl rfl dX6_isFull_14
theorem c_X6_isFull_S (l : Launch) (E : cr_E) (hEK : cr_EK E) (S : cr_S) : cr_M l E yX6_isFull wsX6_isFull rm_X6_isFull [.ref (E.2.1 8 2)] S (cr_vB S) (s_X6_isFull (S.1 8)) := by
  have h := c_X6_isFull l E hEK S (S.1 8)
  rw [cr_us_self] at h
  exact h
theorem k_X6_add_1 : (Cond.fieldLink RX6 9 "CraneCampaign$WindText" "letters" "[I") ∈ wsX6_add := List.mem_of_getElem? (i := 1) (by rfl)
theorem k_X6_add_2 : (Cond.fieldLink RX6 15 "CraneCampaign$WindText" "length" "I") ∈ wsX6_add := List.mem_of_getElem? (i := 2) (by rfl)
theorem i_X6_add_X6 : ∀ w ∈ wsX60, w ∈ wsX6_add := by decide +kernel
abbrev rm_X6_add : Room := { frames := 1, cells := 0, slots := 0, locals := 20 }
set_option maxHeartbeats 4000000 in
set_option maxRecDepth 100000 in
theorem c_X6_add (l : Launch) (E : cr_E) (hEK : cr_EK E) (S0 : cr_S) (G : cr_G) (p1 : Int32) : cr_M l E yX6_add wsX6_add rm_X6_add [.ref (E.2.1 8 2), .int p1] (cr_us S0 8 G) (cr_vVG S0 8) (s_X6_add p1 G) := by
  refine cr_enter (cc := cX6_add) (nL := 2) (rt := none) hEK (by decide) rfl (Nat.le_of_ble_eq_true rfl) (fun Γ hΓ X => ?_)
  subst hΓ
  have X : cr_X Γ E cX6_add 2 RX6 wsX6_add rm_X6_add none := X
  unfold s_X6_add
  show cr_P Γ E 2 _ 0 0 (cr_us S0 8 G) 0 ([(0, .ref (E.2.1 8 2)), (1, .int p1)]) [] _
  refine cr_aload_n X 0 rfl dX6_add_0 ?_
  refine cr_callV X (As := []) (rest := []) (c_X6_isFull Γ.2.1 E hEK S0 G) ((cr_b2 E).at (cr_row S0 8 G 2) rfl) rfl 0 gX6_add_X6_isFull rfl rfl rfl (by decide +kernel) ⟨Nat.le_of_ble_eq_true rfl, Nat.le_of_ble_eq_true rfl⟩ (by decide) rfl rfl (Nat.le_of_ble_eq_true rfl) dX6_add_1 (fun r1_1 => ?_)
  show cr_P Γ E 2 _ 0 0 (cr_us S0 8 G) 4 ([(0, .ref (E.2.1 8 2)), (1, .int p1)]) ([.int (cr_b r1_1)]) _
  refine cr_ifb_ne X 27 dX6_add_4 rfl ?_ ?_
  · exact cr_vret X rfl rfl dX6_add_27
  · refine cr_aload_n X 0 rfl dX6_add_7 ?_
    refine cr_get X ((cr_b2 E).at (cr_row S0 8 G 2) rfl) rfl i_X6_add_X6 0 (by decide) k_X6_add_1 rfl dX6_add_8 ?_
    refine cr_aload_n X 0 rfl dX6_add_11 ?_
    refine cr_get X ((cr_b2 E).at (cr_row S0 8 G 2) rfl) rfl i_X6_add_X6 1 (by decide) k_X6_add_2 rfl dX6_add_12 ?_
    refine cr_iload_n X 1 rfl dX6_add_15 ?_
    refine cr_iastG X (cr_b3 E) (fun _ _ => rfl) dX6_add_16 (fun G16_2 => ?_)
    refine cr_aload_n X 0 rfl dX6_add_17 ?_
    refine cr_dup X rfl dX6_add_18 ?_
    refine cr_get X ((cr_b2 E).at (cr_row S0 8 G16_2 2) rfl) rfl i_X6_add_X6 1 (by decide) k_X6_add_2 rfl dX6_add_19 ?_
    refine cr_iconst X (1 : Int32) (by decide) dX6_add_22 ?_
    refine cr_iadd X dX6_add_23 ?_
    refine cr_putG X (cr_b2 E) 1 rfl rfl rfl i_X6_add_X6 tyX6 tyX6_ok nmX6 (by decide) k_X6_add_2 rfl rfl rfl (Nat.le_of_ble_eq_true rfl) dX6_add_24 (fun G24_3 => ?_)
    exact cr_vret X rfl rfl dX6_add_27
theorem c_X6_add_S (l : Launch) (E : cr_E) (hEK : cr_EK E) (S : cr_S) (p1 : Int32) : cr_M l E yX6_add wsX6_add rm_X6_add [.ref (E.2.1 8 2), .int p1] S (cr_vVG S 8) (s_X6_add  p1 (S.1 8)) := by
  have h := c_X6_add l E hEK S (S.1 8) p1
  rw [cr_us_self] at h
  exact h
abbrev rm_X6_isNumber : Room := { frames := 0, cells := 0, slots := 0, locals := 0 }
set_option maxHeartbeats 4000000 in
set_option maxRecDepth 100000 in
theorem c_X6_isNumber (l : Launch) (E : cr_E) (hEK : cr_EK E) (S : cr_S) (p0 : Int32) : cr_M l E yX6_isNumber wsX6_isNumber rm_X6_isNumber [.int p0] S (cr_vB S) (s_X6_isNumber p0) := by
  refine cr_enter (cc := cX6_isNumber) (nL := 1) (rt := (some .boolean)) hEK (by decide) rfl (Nat.le_of_ble_eq_true rfl) (fun Γ hΓ X => ?_)
  subst hΓ
  have X : cr_X Γ E cX6_isNumber 1 RX6 wsX6_isNumber rm_X6_isNumber (some .boolean) := X
  unfold s_X6_isNumber
  show cr_P Γ E 1 _ 0 0 S 0 ([(0, .int p0)]) [] _
  refine cr_iload_n X 0 rfl dX6_isNumber_0 ?_
  refine cr_iconst X (2 : Int32) (by decide) dX6_isNumber_1 ?_
  refine cr_icmp_eq X 15 dX6_isNumber_2 rfl ?_ ?_
  · refine cr_iconst X (1 : Int32) (by decide) dX6_isNumber_15 ?_
    refine cr_goto X 20 dX6_isNumber_16 rfl ?_
    exact cr_zret X true rfl rfl rfl dX6_isNumber_20
  · refine cr_iload_n X 0 rfl dX6_isNumber_5 ?_
    refine cr_iconst X (3 : Int32) (by decide) dX6_isNumber_6 ?_
    refine cr_icmp_eq X 15 dX6_isNumber_7 rfl ?_ ?_
    · refine cr_iconst X (1 : Int32) (by decide) dX6_isNumber_15 ?_
      refine cr_goto X 20 dX6_isNumber_16 rfl ?_
      exact cr_zret X true rfl rfl rfl dX6_isNumber_20
    · refine cr_iload_n X 0 rfl dX6_isNumber_10 ?_
      refine cr_iconst X (4 : Int32) (by decide) dX6_isNumber_11 ?_
      refine cr_icmp_ne X 19 dX6_isNumber_12 rfl ?_ ?_
      · refine cr_iconst X (0 : Int32) (by decide) dX6_isNumber_19 ?_
        exact cr_zret X false rfl rfl rfl dX6_isNumber_20
      · refine cr_iconst X (1 : Int32) (by decide) dX6_isNumber_15 ?_
        refine cr_goto X 20 dX6_isNumber_16 rfl ?_
        exact cr_zret X true rfl rfl rfl dX6_isNumber_20
abbrev rm_X6_isEndOfPart : Room := { frames := 1, cells := 0, slots := 0, locals := 20 }
set_option maxHeartbeats 4000000 in
set_option maxRecDepth 100000 in
theorem c_X6_isEndOfPart (l : Launch) (E : cr_E) (hEK : cr_EK E) (S : cr_S) (p0 : Int32) : cr_M l E yX6_isEndOfPart wsX6_isEndOfPart rm_X6_isEndOfPart [.int p0] S (cr_vB S) (s_X6_isEndOfPart p0) := by
  refine cr_enter (cc := cX6_isEndOfPart) (nL := 1) (rt := (some .boolean)) hEK (by decide) rfl (Nat.le_of_ble_eq_true rfl) (fun Γ hΓ X => ?_)
  subst hΓ
  have X : cr_X Γ E cX6_isEndOfPart 1 RX6 wsX6_isEndOfPart rm_X6_isEndOfPart (some .boolean) := X
  unfold s_X6_isEndOfPart
  show cr_P Γ E 1 _ 0 0 S 0 ([(0, .int p0)]) [] _
  refine cr_iload_n X 0 rfl dX6_isEndOfPart_0 ?_
  refine cr_callS X (As := [.int p0]) (rest := []) (c_X6_isNumber Γ.2.1 E hEK S p0) 1 gX6_isEndOfPart_X6_isNumber rfl rfl rfl (by decide +kernel) ⟨Nat.le_of_ble_eq_true rfl, Nat.le_of_ble_eq_true rfl⟩ (by decide) rfl rfl (Nat.le_of_ble_eq_true rfl) dX6_isEndOfPart_1 (fun r1_1 => ?_)
  show cr_P Γ E 1 _ 0 0 S 4 ([(0, .int p0)]) ([.int (cr_b r1_1)]) _
  refine cr_ifb_ne X 25 dX6_isEndOfPart_4 rfl ?_ ?_
  · refine cr_iconst X (1 : Int32) (by decide) dX6_isEndOfPart_25 ?_
    refine cr_goto X 30 dX6_isEndOfPart_26 rfl ?_
    exact cr_zret X true rfl rfl rfl dX6_isEndOfPart_30
  · refine cr_iload_n X 0 rfl dX6_isEndOfPart_7 ?_
    refine cr_bipush X (7 : Int32) (by decide) dX6_isEndOfPart_8 ?_
    refine cr_icmp_eq X 25 dX6_isEndOfPart_10 rfl ?_ ?_
    · refine cr_iconst X (1 : Int32) (by decide) dX6_isEndOfPart_25 ?_
      refine cr_goto X 30 dX6_isEndOfPart_26 rfl ?_
      exact cr_zret X true rfl rfl rfl dX6_isEndOfPart_30
    · refine cr_iload_n X 0 rfl dX6_isEndOfPart_13 ?_
      refine cr_bipush X (8 : Int32) (by decide) dX6_isEndOfPart_14 ?_
      refine cr_icmp_eq X 25 dX6_isEndOfPart_16 rfl ?_ ?_
      · refine cr_iconst X (1 : Int32) (by decide) dX6_isEndOfPart_25 ?_
        refine cr_goto X 30 dX6_isEndOfPart_26 rfl ?_
        exact cr_zret X true rfl rfl rfl dX6_isEndOfPart_30
      · refine cr_iload_n X 0 rfl dX6_isEndOfPart_19 ?_
        refine cr_bipush X (9 : Int32) (by decide) dX6_isEndOfPart_20 ?_
        refine cr_icmp_ne X 29 dX6_isEndOfPart_22 rfl ?_ ?_
        · refine cr_iconst X (0 : Int32) (by decide) dX6_isEndOfPart_29 ?_
          exact cr_zret X false rfl rfl rfl dX6_isEndOfPart_30
        · refine cr_iconst X (1 : Int32) (by decide) dX6_isEndOfPart_25 ?_
          refine cr_goto X 30 dX6_isEndOfPart_26 rfl ?_
          exact cr_zret X true rfl rfl rfl dX6_isEndOfPart_30
abbrev rm_X6_afterFirstOfNumber : Room := { frames := 0, cells := 0, slots := 0, locals := 0 }
set_option maxHeartbeats 4000000 in
set_option maxRecDepth 100000 in
theorem c_X6_afterFirstOfNumber (l : Launch) (E : cr_E) (hEK : cr_EK E) (S : cr_S) (p0 : Int32) : cr_M l E yX6_afterFirstOfNumber wsX6_afterFirstOfNumber rm_X6_afterFirstOfNumber [.int p0] S (cr_vI S) (s_X6_afterFirstOfNumber p0) := by
  refine cr_enter (cc := cX6_afterFirstOfNumber) (nL := 1) (rt := (some .int)) hEK (by decide) rfl (Nat.le_of_ble_eq_true rfl) (fun Γ hΓ X => ?_)
  subst hΓ
  have X : cr_X Γ E cX6_afterFirstOfNumber 1 RX6 wsX6_afterFirstOfNumber rm_X6_afterFirstOfNumber (some .int) := X
  unfold s_X6_afterFirstOfNumber
  show cr_P Γ E 1 _ 0 0 S 0 ([(0, .int p0)]) [] _
  refine cr_iload_n X 0 rfl dX6_afterFirstOfNumber_0 ?_
  refine cr_ite (fun h1_0 => ?_) (fun n1_0 => ?_)
  · refine cr_tin X 1 28 h1_0 dX6_afterFirstOfNumber_1 (by decide) rfl rfl ?_
    refine cr_iconst X (2 : Int32) (by decide) dX6_afterFirstOfNumber_28 ?_
    exact cr_iret X rfl rfl dX6_afterFirstOfNumber_29
  · refine cr_ite (fun h1_1 => ?_) (fun n1_1 => ?_)
    · refine cr_tin X 2 28 h1_1 dX6_afterFirstOfNumber_1 (by decide) rfl rfl ?_
      refine cr_iconst X (2 : Int32) (by decide) dX6_afterFirstOfNumber_28 ?_
      exact cr_iret X rfl rfl dX6_afterFirstOfNumber_29
    · refine cr_ite (fun h1_2 => ?_) (fun n1_2 => ?_)
      · refine cr_tin X 3 30 h1_2 dX6_afterFirstOfNumber_1 (by decide) rfl rfl ?_
        refine cr_iconst X (3 : Int32) (by decide) dX6_afterFirstOfNumber_30 ?_
        exact cr_iret X rfl rfl dX6_afterFirstOfNumber_31
      · refine cr_tout X 32 dX6_afterFirstOfNumber_1 (by have q0 := lv_neT (a := 1) n1_0 rfl; have q1 := lv_neT (a := 2) n1_1 rfl; have q2 := lv_neT (a := 3) n1_2 rfl; omega) rfl ?_
        refine cr_iconst X (4 : Int32) (by decide) dX6_afterFirstOfNumber_32 ?_
        exact cr_iret X rfl rfl dX6_afterFirstOfNumber_33
abbrev rm_X6_afterFirstOfTimes : Room := { frames := 0, cells := 0, slots := 0, locals := 0 }
set_option maxHeartbeats 4000000 in
set_option maxRecDepth 100000 in
theorem c_X6_afterFirstOfTimes (l : Launch) (E : cr_E) (hEK : cr_EK E) (S : cr_S) (p0 : Int32) : cr_M l E yX6_afterFirstOfTimes wsX6_afterFirstOfTimes rm_X6_afterFirstOfTimes [.int p0] S (cr_vI S) (s_X6_afterFirstOfTimes p0) := by
  refine cr_enter (cc := cX6_afterFirstOfTimes) (nL := 1) (rt := (some .int)) hEK (by decide) rfl (Nat.le_of_ble_eq_true rfl) (fun Γ hΓ X => ?_)
  subst hΓ
  have X : cr_X Γ E cX6_afterFirstOfTimes 1 RX6 wsX6_afterFirstOfTimes rm_X6_afterFirstOfTimes (some .int) := X
  unfold s_X6_afterFirstOfTimes
  show cr_P Γ E 1 _ 0 0 S 0 ([(0, .int p0)]) [] _
  refine cr_iload_n X 0 rfl dX6_afterFirstOfTimes_0 ?_
  refine cr_ite (fun h1_0 => ?_) (fun n1_0 => ?_)
  · refine cr_tin X 0 36 h1_0 dX6_afterFirstOfTimes_1 (by decide) rfl rfl ?_
    refine cr_iconst X (0 : Int32) (by decide) dX6_afterFirstOfTimes_36 ?_
    exact cr_iret X rfl rfl dX6_afterFirstOfTimes_37
  · refine cr_ite (fun h1_1 => ?_) (fun n1_1 => ?_)
    · refine cr_tin X 1 38 h1_1 dX6_afterFirstOfTimes_1 (by decide) rfl rfl ?_
      refine cr_bipush X (6 : Int32) (by decide) dX6_afterFirstOfTimes_38 ?_
      exact cr_iret X rfl rfl dX6_afterFirstOfTimes_40
    · refine cr_ite (fun h1_2 => ?_) (fun n1_2 => ?_)
      · refine cr_tin X 2 41 h1_2 dX6_afterFirstOfTimes_1 (by decide) rfl rfl ?_
        refine cr_bipush X (7 : Int32) (by decide) dX6_afterFirstOfTimes_41 ?_
        exact cr_iret X rfl rfl dX6_afterFirstOfTimes_43
      · refine cr_ite (fun h1_3 => ?_) (fun n1_3 => ?_)
        · refine cr_tin X 3 41 h1_3 dX6_afterFirstOfTimes_1 (by decide) rfl rfl ?_
          refine cr_bipush X (7 : Int32) (by decide) dX6_afterFirstOfTimes_41 ?_
          exact cr_iret X rfl rfl dX6_afterFirstOfTimes_43
        · refine cr_ite (fun h1_4 => ?_) (fun n1_4 => ?_)
          · refine cr_tin X 4 44 h1_4 dX6_afterFirstOfTimes_1 (by decide) rfl rfl ?_
            refine cr_bipush X (8 : Int32) (by decide) dX6_afterFirstOfTimes_44 ?_
            exact cr_iret X rfl rfl dX6_afterFirstOfTimes_46
          · refine cr_tout X 47 dX6_afterFirstOfTimes_1 (by have q0 := lv_neT (a := 0) n1_0 rfl; have q1 := lv_neT (a := 1) n1_1 rfl; have q2 := lv_neT (a := 2) n1_2 rfl; have q3 := lv_neT (a := 3) n1_3 rfl; have q4 := lv_neT (a := 4) n1_4 rfl; omega) rfl ?_
            refine cr_bipush X (9 : Int32) (by decide) dX6_afterFirstOfTimes_47 ?_
            exact cr_iret X rfl rfl dX6_afterFirstOfTimes_49
abbrev rm_X6_afterDigit : Room := { frames := 1, cells := 0, slots := 0, locals := 20 }
set_option maxHeartbeats 4000000 in
set_option maxRecDepth 100000 in
theorem c_X6_afterDigit (l : Launch) (E : cr_E) (hEK : cr_EK E) (S : cr_S) (p0 : Int32) (p1 : Int32) : cr_M l E yX6_afterDigit wsX6_afterDigit rm_X6_afterDigit [.int p0, .int p1] S (cr_vI S) (s_X6_afterDigit p0 p1) := by
  refine cr_enter (cc := cX6_afterDigit) (nL := 2) (rt := (some .int)) hEK (by decide) rfl (Nat.le_of_ble_eq_true rfl) (fun Γ hΓ X => ?_)
  subst hΓ
  have X : cr_X Γ E cX6_afterDigit 2 RX6 wsX6_afterDigit rm_X6_afterDigit (some .int) := X
  unfold s_X6_afterDigit
  show cr_P Γ E 2 _ 0 0 S 0 ([(0, .int p0), (1, .int p1)]) [] _
  refine cr_iload_n X 0 rfl dX6_afterDigit_0 ?_
  refine cr_ite (fun h1_0 => ?_) (fun n1_0 => ?_)
  · refine cr_tin X 1 48 h1_0 dX6_afterDigit_1 (by decide) rfl rfl ?_
    refine cr_iload_n X 1 rfl dX6_afterDigit_48 ?_
    refine cr_callS X (As := [.int p1]) (rest := []) (c_X6_afterFirstOfNumber Γ.2.1 E hEK S p1) 1 gX6_afterDigit_X6_afterFirstOfNumber rfl rfl rfl (by decide +kernel) ⟨Nat.le_of_ble_eq_true rfl, Nat.le_of_ble_eq_true rfl⟩ (by decide) rfl rfl (Nat.le_of_ble_eq_true rfl) dX6_afterDigit_49 (fun r49_1 => ?_)
    show cr_P Γ E 2 _ 0 0 S 52 ([(0, .int p0), (1, .int p1)]) ([.int r49_1]) _
    exact cr_iret X rfl rfl dX6_afterDigit_52
  · refine cr_ite (fun h1_1 => ?_) (fun n1_1 => ?_)
    · refine cr_tin X 2 53 h1_1 dX6_afterDigit_1 (by decide) rfl rfl ?_
      refine cr_iconst X (4 : Int32) (by decide) dX6_afterDigit_53 ?_
      exact cr_iret X rfl rfl dX6_afterDigit_54
    · refine cr_ite (fun h1_2 => ?_) (fun n1_2 => ?_)
      · refine cr_tin X 3 55 h1_2 dX6_afterDigit_1 (by decide) rfl rfl ?_
        refine cr_iload_n X 1 rfl dX6_afterDigit_55 ?_
        refine cr_if_ne X 63 dX6_afterDigit_56 rfl ?_ ?_
        · refine cr_iconst X (0 : Int32) (by decide) dX6_afterDigit_63 ?_
          exact cr_iret X rfl rfl dX6_afterDigit_64
        · refine cr_iconst X (4 : Int32) (by decide) dX6_afterDigit_59 ?_
          refine cr_goto X 64 dX6_afterDigit_60 rfl ?_
          exact cr_iret X rfl rfl dX6_afterDigit_64
      · refine cr_ite (fun h1_3 => ?_) (fun n1_3 => ?_)
        · refine cr_tin X 4 86 h1_3 dX6_afterDigit_1 (by decide) rfl rfl ?_
          refine cr_iconst X (0 : Int32) (by decide) dX6_afterDigit_86 ?_
          exact cr_iret X rfl rfl dX6_afterDigit_87
        · refine cr_ite (fun h1_4 => ?_) (fun n1_4 => ?_)
          · refine cr_tin X 5 65 h1_4 dX6_afterDigit_1 (by decide) rfl rfl ?_
            refine cr_iload_n X 1 rfl dX6_afterDigit_65 ?_
            refine cr_callS X (As := [.int p1]) (rest := []) (c_X6_afterFirstOfTimes Γ.2.1 E hEK S p1) 1 gX6_afterDigit_X6_afterFirstOfTimes rfl rfl rfl (by decide +kernel) ⟨Nat.le_of_ble_eq_true rfl, Nat.le_of_ble_eq_true rfl⟩ (by decide) rfl rfl (Nat.le_of_ble_eq_true rfl) dX6_afterDigit_66 (fun r66_2 => ?_)
            show cr_P Γ E 2 _ 0 0 S 69 ([(0, .int p0), (1, .int p1)]) ([.int r66_2]) _
            exact cr_iret X rfl rfl dX6_afterDigit_69
          · refine cr_ite (fun h1_5 => ?_) (fun n1_5 => ?_)
            · refine cr_tin X 6 70 h1_5 dX6_afterDigit_1 (by decide) rfl rfl ?_
              refine cr_bipush X (9 : Int32) (by decide) dX6_afterDigit_70 ?_
              exact cr_iret X rfl rfl dX6_afterDigit_72
            · refine cr_ite (fun h1_6 => ?_) (fun n1_6 => ?_)
              · refine cr_tin X 7 70 h1_6 dX6_afterDigit_1 (by decide) rfl rfl ?_
                refine cr_bipush X (9 : Int32) (by decide) dX6_afterDigit_70 ?_
                exact cr_iret X rfl rfl dX6_afterDigit_72
              · refine cr_ite (fun h1_7 => ?_) (fun n1_7 => ?_)
                · refine cr_tin X 8 73 h1_7 dX6_afterDigit_1 (by decide) rfl rfl ?_
                  refine cr_iload_n X 1 rfl dX6_afterDigit_73 ?_
                  refine cr_bipush X (8 : Int32) (by decide) dX6_afterDigit_74 ?_
                  refine cr_icmp_gt X 84 dX6_afterDigit_76 rfl ?_ ?_
                  · refine cr_iconst X (0 : Int32) (by decide) dX6_afterDigit_84 ?_
                    exact cr_iret X rfl rfl dX6_afterDigit_85
                  · refine cr_bipush X (9 : Int32) (by decide) dX6_afterDigit_79 ?_
                    refine cr_goto X 85 dX6_afterDigit_81 rfl ?_
                    exact cr_iret X rfl rfl dX6_afterDigit_85
                · refine cr_tout X 86 dX6_afterDigit_1 (by have q0 := lv_neT (a := 1) n1_0 rfl; have q1 := lv_neT (a := 2) n1_1 rfl; have q2 := lv_neT (a := 3) n1_2 rfl; have q3 := lv_neT (a := 4) n1_3 rfl; have q4 := lv_neT (a := 5) n1_4 rfl; have q5 := lv_neT (a := 6) n1_5 rfl; have q6 := lv_neT (a := 7) n1_6 rfl; have q7 := lv_neT (a := 8) n1_7 rfl; omega) rfl ?_
                  refine cr_iconst X (0 : Int32) (by decide) dX6_afterDigit_86 ?_
                  exact cr_iret X rfl rfl dX6_afterDigit_87
abbrev rm_X6_after : Room := { frames := 2, cells := 0, slots := 0, locals := 41 }
set_option maxHeartbeats 4000000 in
set_option maxRecDepth 100000 in
theorem c_X6_after (l : Launch) (E : cr_E) (hEK : cr_EK E) (S : cr_S) (p0 : Int32) (p1 : Int32) : cr_M l E yX6_after wsX6_after rm_X6_after [.int p0, .int p1] S (cr_vI S) (s_X6_after p0 p1) := by
  refine cr_enter (cc := cX6_after) (nL := 2) (rt := (some .int)) hEK (by decide) rfl (Nat.le_of_ble_eq_true rfl) (fun Γ hΓ X => ?_)
  subst hΓ
  have X : cr_X Γ E cX6_after 2 RX6 wsX6_after rm_X6_after (some .int) := X
  unfold s_X6_after
  show cr_P Γ E 2 _ 0 0 S 0 ([(0, .int p0), (1, .int p1)]) [] _
  refine cr_iload_n X 1 rfl dX6_after_0 ?_
  refine cr_bipush X (44 : Int32) (by decide) dX6_after_1 ?_
  refine cr_icmp_ne X 19 dX6_after_3 rfl ?_ ?_
  · refine cr_iload_n X 1 rfl dX6_after_19 ?_
    refine cr_bipush X (42 : Int32) (by decide) dX6_after_20 ?_
    refine cr_icmp_ne X 38 dX6_after_22 rfl ?_ ?_
    · refine cr_iload_n X 1 rfl dX6_after_38 ?_
      refine cr_bipush X (48 : Int32) (by decide) dX6_after_39 ?_
      refine cr_icmp_lt X 61 dX6_after_41 rfl ?_ ?_
      · refine cr_iconst X (0 : Int32) (by decide) dX6_after_61 ?_
        exact cr_iret X rfl rfl dX6_after_62
      · refine cr_iload_n X 1 rfl dX6_after_44 ?_
        refine cr_bipush X (57 : Int32) (by decide) dX6_after_45 ?_
        refine cr_icmp_gt X 61 dX6_after_47 rfl ?_ ?_
        · refine cr_iconst X (0 : Int32) (by decide) dX6_after_61 ?_
          exact cr_iret X rfl rfl dX6_after_62
        · refine cr_iload_n X 0 rfl dX6_after_50 ?_
          refine cr_iload_n X 1 rfl dX6_after_51 ?_
          refine cr_bipush X (48 : Int32) (by decide) dX6_after_52 ?_
          refine cr_isub X dX6_after_54 ?_
          refine cr_callS X (As := [.int p0, .int ((p1 - (48 : Int32)))]) (rest := []) (c_X6_afterDigit Γ.2.1 E hEK S p0 ((p1 - (48 : Int32)))) 2 gX6_after_X6_afterDigit rfl rfl rfl (by decide +kernel) ⟨Nat.le_of_ble_eq_true rfl, Nat.le_of_ble_eq_true rfl⟩ (by decide) rfl rfl (Nat.le_of_ble_eq_true rfl) dX6_after_55 (fun r55_1 => ?_)
          show cr_P Γ E 2 _ 0 0 S 58 ([(0, .int p0), (1, .int p1)]) ([.int r55_1]) _
          refine cr_goto X 62 dX6_after_58 rfl ?_
          exact cr_iret X rfl rfl dX6_after_62
    · refine cr_iload_n X 0 rfl dX6_after_25 ?_
      refine cr_callS X (As := [.int p0]) (rest := []) (c_X6_isNumber Γ.2.1 E hEK S p0) 1 gX6_after_X6_isNumber rfl rfl rfl (by decide +kernel) ⟨Nat.le_of_ble_eq_true rfl, Nat.le_of_ble_eq_true rfl⟩ (by decide) rfl rfl (Nat.le_of_ble_eq_true rfl) dX6_after_26 (fun r26_2 => ?_)
      show cr_P Γ E 2 _ 0 0 S 29 ([(0, .int p0), (1, .int p1)]) ([.int (cr_b r26_2)]) _
      refine cr_ifb_eq X 36 dX6_after_29 rfl ?_ ?_
      · refine cr_iconst X (0 : Int32) (by decide) dX6_after_36 ?_
        exact cr_iret X rfl rfl dX6_after_37
      · refine cr_iconst X (5 : Int32) (by decide) dX6_after_32 ?_
        refine cr_goto X 37 dX6_after_33 rfl ?_
        exact cr_iret X rfl rfl dX6_after_37
  · refine cr_iload_n X 0 rfl dX6_after_6 ?_
    refine cr_callS X (As := [.int p0]) (rest := []) (c_X6_isEndOfPart Γ.2.1 E hEK S p0) 1 gX6_after_X6_isEndOfPart rfl rfl rfl (by decide +kernel) ⟨Nat.le_of_ble_eq_true rfl, Nat.le_of_ble_eq_true rfl⟩ (by decide) rfl rfl (Nat.le_of_ble_eq_true rfl) dX6_after_7 (fun r7_3 => ?_)
    show cr_P Γ E 2 _ 0 0 S 10 ([(0, .int p0), (1, .int p1)]) ([.int (cr_b r7_3)]) _
    refine cr_ifb_eq X 17 dX6_after_10 rfl ?_ ?_
    · refine cr_iconst X (0 : Int32) (by decide) dX6_after_17 ?_
      exact cr_iret X rfl rfl dX6_after_18
    · refine cr_iconst X (1 : Int32) (by decide) dX6_after_13 ?_
      refine cr_goto X 18 dX6_after_14 rfl ?_
      exact cr_iret X rfl rfl dX6_after_18
theorem k_X6_isComplete_1 : (Cond.fieldLink RX6 15 "CraneCampaign$WindText" "length" "I") ∈ wsX6_isComplete := List.mem_of_getElem? (i := 1) (by rfl)
theorem k_X6_isComplete_2 : (Cond.fieldLink RX6 9 "CraneCampaign$WindText" "letters" "[I") ∈ wsX6_isComplete := List.mem_of_getElem? (i := 2) (by rfl)
theorem i_X6_isComplete_X6 : ∀ w ∈ wsX60, w ∈ wsX6_isComplete := by decide +kernel
abbrev rm_X6_isComplete : Room := { frames := 3, cells := 0, slots := 0, locals := 62 }
set_option maxHeartbeats 4000000 in
set_option maxRecDepth 100000 in
theorem b_X6_isComplete_4 {Γ : cr_C} {E : cr_E} (X : cr_X Γ E cX6_isComplete 3 RX6 wsX6_isComplete rm_X6_isComplete (some .boolean)) (S0 : cr_S) (G : cr_G) : ∀ (n : Nat) (x1 : Int32) (x2 : Int32), cr_P Γ E 3 (cr_F Γ E (cr_vB (cr_us S0 8 G))) 0 0 (cr_us S0 8 G) 4 ([(0, .ref (E.2.1 8 2)), (1, .int x1), (2, .int x2)]) ([]) (s_X6_isComplete_4 G n x1 x2) := by
  have hEK := X.2.2.2.2.2.2.1
  intro n
  induction n with
  | zero => intro x1 x2; exact cr_none
  | succ n ih =>
    intro x1 x2
    rw [s_X6_isComplete_4]
    refine cr_iload_n X 2 rfl dX6_isComplete_4 ?_
    refine cr_aload_n X 0 rfl dX6_isComplete_5 ?_
    refine cr_get X ((cr_b2 E).at (cr_row S0 8 G 2) rfl) rfl i_X6_isComplete_X6 1 (by decide) k_X6_isComplete_1 rfl dX6_isComplete_6 ?_
    refine cr_icmp_ge X 29 dX6_isComplete_9 rfl ?_ ?_
    · refine cr_iload_n X 1 rfl dX6_isComplete_29 ?_
      refine cr_callS X (As := [.int x1]) (rest := []) (c_X6_isEndOfPart Γ.2.1 E hEK ((cr_us S0 8 G)) x1) 1 gX6_isComplete_X6_isEndOfPart rfl rfl rfl (by decide +kernel) ⟨Nat.le_of_ble_eq_true rfl, Nat.le_of_ble_eq_true rfl⟩ (by decide) rfl rfl (Nat.le_of_ble_eq_true rfl) dX6_isComplete_30 (fun r30_1 => ?_)
      show cr_P Γ E 3 _ 0 0 (cr_us S0 8 G) 33 ([(0, .ref (E.2.1 8 2)), (1, .int x1), (2, .int x2)]) ([.int (cr_b r30_1)]) _
      exact cr_zret X r30_1 rfl rfl rfl dX6_isComplete_33
    · refine cr_iload_n X 1 rfl dX6_isComplete_12 ?_
      refine cr_aload_n X 0 rfl dX6_isComplete_13 ?_
      refine cr_get X ((cr_b2 E).at (cr_row S0 8 G 2) rfl) rfl i_X6_isComplete_X6 0 (by decide) k_X6_isComplete_2 rfl dX6_isComplete_14 ?_
      refine cr_iload_n X 2 rfl dX6_isComplete_17 ?_
      refine cr_iald X ((cr_b3 E).at (cr_row S0 8 G 3) rfl) dX6_isComplete_18 ?_
      refine cr_callS X (As := [.int x1, .int (((G 3) (x2).toNatClampNeg))]) (rest := []) (c_X6_after Γ.2.1 E hEK ((cr_us S0 8 G)) x1 (((G 3) (x2).toNatClampNeg))) 2 gX6_isComplete_X6_after rfl rfl rfl (by decide +kernel) ⟨Nat.le_of_ble_eq_true rfl, Nat.le_of_ble_eq_true rfl⟩ (by decide) rfl rfl (Nat.le_of_ble_eq_true rfl) dX6_isComplete_19 (fun r19_2 => ?_)
      show cr_P Γ E 3 _ 0 0 (cr_us S0 8 G) 22 ([(0, .ref (E.2.1 8 2)), (1, .int x1), (2, .int x2)]) ([.int r19_2]) _
      refine cr_istore_n X ([(1, .int r19_2), (0, .ref (E.2.1 8 2)), (2, .int x2)]) rfl (by decide) dX6_isComplete_22 ?_
      refine cr_iinc X (x2 + 1) (fun v23_3 => [(2, .int v23_3), (1, .int r19_2), (0, .ref (E.2.1 8 2))]) 2 rfl rfl (fun _ => rfl) (by decide) dX6_isComplete_23 (fun v23_3 => ?_)
      refine cr_goto X 4 dX6_isComplete_26 rfl ?_
      refine cr_sub (lv' := [(0, .ref (E.2.1 8 2)), (1, .int r19_2), (2, .int v23_3)]) [2, 1, 0] rfl ?_
      exact ih r19_2 v23_3
set_option maxHeartbeats 4000000 in
set_option maxRecDepth 100000 in
theorem c_X6_isComplete (l : Launch) (E : cr_E) (hEK : cr_EK E) (S0 : cr_S) (G : cr_G) : cr_M l E yX6_isComplete wsX6_isComplete rm_X6_isComplete [.ref (E.2.1 8 2)] (cr_us S0 8 G) (cr_vB (cr_us S0 8 G)) (s_X6_isComplete G) := by
  refine cr_enter (cc := cX6_isComplete) (nL := 3) (rt := (some .boolean)) hEK (by decide) rfl (Nat.le_of_ble_eq_true rfl) (fun Γ hΓ X => ?_)
  subst hΓ
  have X : cr_X Γ E cX6_isComplete 3 RX6 wsX6_isComplete rm_X6_isComplete (some .boolean) := X
  unfold s_X6_isComplete
  show cr_P Γ E 3 _ 0 0 (cr_us S0 8 G) 0 ([(0, .ref (E.2.1 8 2))]) [] _
  refine cr_iconst X (1 : Int32) (by decide) dX6_isComplete_0 ?_
  refine cr_istore_n X ([(1, .int ((1 : Int32))), (0, .ref (E.2.1 8 2))]) rfl (by decide) dX6_isComplete_1 ?_
  refine cr_iconst X (0 : Int32) (by decide) dX6_isComplete_2 ?_
  refine cr_istore_n X ([(2, .int ((0 : Int32))), (1, .int ((1 : Int32))), (0, .ref (E.2.1 8 2))]) rfl (by decide) dX6_isComplete_3 ?_
  refine cr_sub (lv' := [(0, .ref (E.2.1 8 2)), (1, .int ((1 : Int32))), (2, .int ((0 : Int32)))]) [2, 1, 0] rfl ?_
  exact b_X6_isComplete_4 X S0 G 1200 ((1 : Int32)) ((0 : Int32))
theorem c_X6_isComplete_S (l : Launch) (E : cr_E) (hEK : cr_EK E) (S : cr_S) : cr_M l E yX6_isComplete wsX6_isComplete rm_X6_isComplete [.ref (E.2.1 8 2)] S (cr_vB S) (s_X6_isComplete (S.1 8)) := by
  have h := c_X6_isComplete l E hEK S (S.1 8)
  rw [cr_us_self] at h
  exact h
theorem k_X6_valueFrom_1 : (Cond.fieldLink RX6 15 "CraneCampaign$WindText" "length" "I") ∈ wsX6_valueFrom := List.mem_of_getElem? (i := 1) (by rfl)
theorem k_X6_valueFrom_2 : (Cond.fieldLink RX6 9 "CraneCampaign$WindText" "letters" "[I") ∈ wsX6_valueFrom := List.mem_of_getElem? (i := 2) (by rfl)
theorem i_X6_valueFrom_X6 : ∀ w ∈ wsX60, w ∈ wsX6_valueFrom := by decide +kernel
abbrev rm_X6_valueFrom : Room := { frames := 0, cells := 0, slots := 0, locals := 0 }
set_option maxHeartbeats 4000000 in
set_option maxRecDepth 100000 in
theorem b_X6_valueFrom_4 {Γ : cr_C} {E : cr_E} (X : cr_X Γ E cX6_valueFrom 4 RX6 wsX6_valueFrom rm_X6_valueFrom (some .int)) (S0 : cr_S) (G : cr_G) : ∀ (n : Nat) (x2 : Int32) (x3 : Int32), cr_P Γ E 4 (cr_F Γ E (cr_vI (cr_us S0 8 G))) 0 0 (cr_us S0 8 G) 4 ([(0, .ref (E.2.1 8 2)), (2, .int x2), (3, .int x3)]) ([]) (s_X6_valueFrom_4 G n x2 x3) := by
  have hEK := X.2.2.2.2.2.2.1
  intro n
  induction n with
  | zero => intro x2 x3; exact cr_none
  | succ n ih =>
    intro x2 x3
    rw [s_X6_valueFrom_4]
    refine cr_iload_n X 2 rfl dX6_valueFrom_4 ?_
    refine cr_aload_n X 0 rfl dX6_valueFrom_5 ?_
    refine cr_get X ((cr_b2 E).at (cr_row S0 8 G 2) rfl) rfl i_X6_valueFrom_X6 1 (by decide) k_X6_valueFrom_1 rfl dX6_valueFrom_6 ?_
    refine cr_icmp_ge X 55 dX6_valueFrom_9 rfl ?_ ?_
    · refine cr_iload_n X 1 rfl dX6_valueFrom_55 ?_
      exact cr_iret X rfl rfl dX6_valueFrom_56
    · refine cr_aload_n X 0 rfl dX6_valueFrom_12 ?_
      refine cr_get X ((cr_b2 E).at (cr_row S0 8 G 2) rfl) rfl i_X6_valueFrom_X6 0 (by decide) k_X6_valueFrom_2 rfl dX6_valueFrom_13 ?_
      refine cr_iload_n X 2 rfl dX6_valueFrom_16 ?_
      refine cr_iald X ((cr_b3 E).at (cr_row S0 8 G 3) rfl) dX6_valueFrom_17 ?_
      refine cr_bipush X (48 : Int32) (by decide) dX6_valueFrom_18 ?_
      refine cr_icmp_lt X 55 dX6_valueFrom_20 rfl ?_ ?_
      · refine cr_iload_n X 1 rfl dX6_valueFrom_55 ?_
        exact cr_iret X rfl rfl dX6_valueFrom_56
      · refine cr_aload_n X 0 rfl dX6_valueFrom_23 ?_
        refine cr_get X ((cr_b2 E).at (cr_row S0 8 G 2) rfl) rfl i_X6_valueFrom_X6 0 (by decide) k_X6_valueFrom_2 rfl dX6_valueFrom_24 ?_
        refine cr_iload_n X 2 rfl dX6_valueFrom_27 ?_
        refine cr_iald X ((cr_b3 E).at (cr_row S0 8 G 3) rfl) dX6_valueFrom_28 ?_
        refine cr_bipush X (57 : Int32) (by decide) dX6_valueFrom_29 ?_
        refine cr_icmp_gt X 55 dX6_valueFrom_31 rfl ?_ ?_
        · refine cr_iload_n X 1 rfl dX6_valueFrom_55 ?_
          exact cr_iret X rfl rfl dX6_valueFrom_56
        · refine cr_bipush X (10 : Int32) (by decide) dX6_valueFrom_34 ?_
          refine cr_iload_n X 1 rfl dX6_valueFrom_36 ?_
          refine cr_imul X dX6_valueFrom_37 ?_
          refine cr_aload_n X 0 rfl dX6_valueFrom_38 ?_
          refine cr_get X ((cr_b2 E).at (cr_row S0 8 G 2) rfl) rfl i_X6_valueFrom_X6 0 (by decide) k_X6_valueFrom_2 rfl dX6_valueFrom_39 ?_
          refine cr_iload_n X 2 rfl dX6_valueFrom_42 ?_
          refine cr_iald X ((cr_b3 E).at (cr_row S0 8 G 3) rfl) dX6_valueFrom_43 ?_
          refine cr_iadd X dX6_valueFrom_44 ?_
          refine cr_bipush X (48 : Int32) (by decide) dX6_valueFrom_45 ?_
          refine cr_isub X dX6_valueFrom_47 ?_
          refine cr_istore_nb X (fun v48_1 => [(2, .int v48_1), (0, .ref (E.2.1 8 2)), (3, .int x3)]) (fun _ => rfl) (by decide) dX6_valueFrom_48 (fun v48_1 => ?_)
          refine cr_iinc X (x3 + 1) (fun v49_2 => [(3, .int v49_2), (2, .int v48_1), (0, .ref (E.2.1 8 2))]) 2 rfl rfl (fun _ => rfl) (by decide) dX6_valueFrom_49 (fun v49_2 => ?_)
          refine cr_goto X 4 dX6_valueFrom_52 rfl ?_
          refine cr_sub (lv' := [(0, .ref (E.2.1 8 2)), (2, .int v48_1), (3, .int v49_2)]) [2, 1, 0] rfl ?_
          exact ih v48_1 v49_2
set_option maxHeartbeats 4000000 in
set_option maxRecDepth 100000 in
theorem c_X6_valueFrom (l : Launch) (E : cr_E) (hEK : cr_EK E) (S0 : cr_S) (G : cr_G) (p1 : Int32) : cr_M l E yX6_valueFrom wsX6_valueFrom rm_X6_valueFrom [.ref (E.2.1 8 2), .int p1] (cr_us S0 8 G) (cr_vI (cr_us S0 8 G)) (s_X6_valueFrom G p1) := by
  refine cr_enter (cc := cX6_valueFrom) (nL := 4) (rt := (some .int)) hEK (by decide) rfl (Nat.le_of_ble_eq_true rfl) (fun Γ hΓ X => ?_)
  subst hΓ
  have X : cr_X Γ E cX6_valueFrom 4 RX6 wsX6_valueFrom rm_X6_valueFrom (some .int) := X
  unfold s_X6_valueFrom
  show cr_P Γ E 4 _ 0 0 (cr_us S0 8 G) 0 ([(0, .ref (E.2.1 8 2)), (1, .int p1)]) [] _
  refine cr_iconst X (0 : Int32) (by decide) dX6_valueFrom_0 ?_
  refine cr_istore_n X ([(2, .int ((0 : Int32))), (0, .ref (E.2.1 8 2)), (1, .int p1)]) rfl (by decide) dX6_valueFrom_1 ?_
  refine cr_iload_n X 2 rfl dX6_valueFrom_2 ?_
  refine cr_istore_n X ([(3, .int p1), (2, .int ((0 : Int32))), (0, .ref (E.2.1 8 2)), (1, .int p1)]) rfl (by decide) dX6_valueFrom_3 ?_
  refine cr_sub (lv' := [(0, .ref (E.2.1 8 2)), (2, .int ((0 : Int32))), (3, .int p1)]) [2, 1, 0] rfl ?_
  exact b_X6_valueFrom_4 X S0 G 1200 ((0 : Int32)) p1
theorem c_X6_valueFrom_S (l : Launch) (E : cr_E) (hEK : cr_EK E) (S : cr_S) (p1 : Int32) : cr_M l E yX6_valueFrom wsX6_valueFrom rm_X6_valueFrom [.ref (E.2.1 8 2), .int p1] S (cr_vI S) (s_X6_valueFrom (S.1 8) p1) := by
  have h := c_X6_valueFrom l E hEK S (S.1 8) p1
  rw [cr_us_self] at h
  exact h
theorem k_X6_timesFrom_1 : (Cond.fieldLink RX6 15 "CraneCampaign$WindText" "length" "I") ∈ wsX6_timesFrom := List.mem_of_getElem? (i := 1) (by rfl)
theorem k_X6_timesFrom_2 : (Cond.fieldLink RX6 9 "CraneCampaign$WindText" "letters" "[I") ∈ wsX6_timesFrom := List.mem_of_getElem? (i := 2) (by rfl)
theorem i_X6_timesFrom_X6 : ∀ w ∈ wsX60, w ∈ wsX6_timesFrom := by decide +kernel
abbrev rm_X6_timesFrom : Room := { frames := 1, cells := 0, slots := 0, locals := 23 }
set_option maxHeartbeats 4000000 in
set_option maxRecDepth 100000 in
theorem b_X6_timesFrom_2 {Γ : cr_C} {E : cr_E} (X : cr_X Γ E cX6_timesFrom 3 RX6 wsX6_timesFrom rm_X6_timesFrom (some .int)) (S0 : cr_S) (G : cr_G) : ∀ (n : Nat) (x2 : Int32), cr_P Γ E 3 (cr_F Γ E (cr_vI (cr_us S0 8 G))) 0 0 (cr_us S0 8 G) 2 ([(0, .ref (E.2.1 8 2)), (2, .int x2)]) ([]) (s_X6_timesFrom_2 G n x2) := by
  have hEK := X.2.2.2.2.2.2.1
  intro n
  induction n with
  | zero => intro x2; exact cr_none
  | succ n ih =>
    intro x2
    rw [s_X6_timesFrom_2]
    refine cr_iload_n X 1 rfl dX6_timesFrom_2 ?_
    refine cr_aload_n X 0 rfl dX6_timesFrom_3 ?_
    refine cr_get X ((cr_b2 E).at (cr_row S0 8 G 2) rfl) rfl i_X6_timesFrom_X6 1 (by decide) k_X6_timesFrom_1 rfl dX6_timesFrom_4 ?_
    refine cr_icmp_ge X 46 dX6_timesFrom_7 rfl ?_ ?_
    · refine cr_iconst X (1 : Int32) (by decide) dX6_timesFrom_46 ?_
      exact cr_iret X rfl rfl dX6_timesFrom_47
    · refine cr_aload_n X 0 rfl dX6_timesFrom_10 ?_
      refine cr_get X ((cr_b2 E).at (cr_row S0 8 G 2) rfl) rfl i_X6_timesFrom_X6 0 (by decide) k_X6_timesFrom_2 rfl dX6_timesFrom_11 ?_
      refine cr_iload_n X 1 rfl dX6_timesFrom_14 ?_
      refine cr_iald X ((cr_b3 E).at (cr_row S0 8 G 3) rfl) dX6_timesFrom_15 ?_
      refine cr_bipush X (44 : Int32) (by decide) dX6_timesFrom_16 ?_
      refine cr_icmp_eq X 46 dX6_timesFrom_18 rfl ?_ ?_
      · refine cr_iconst X (1 : Int32) (by decide) dX6_timesFrom_46 ?_
        exact cr_iret X rfl rfl dX6_timesFrom_47
      · refine cr_aload_n X 0 rfl dX6_timesFrom_21 ?_
        refine cr_get X ((cr_b2 E).at (cr_row S0 8 G 2) rfl) rfl i_X6_timesFrom_X6 0 (by decide) k_X6_timesFrom_2 rfl dX6_timesFrom_22 ?_
        refine cr_iload_n X 1 rfl dX6_timesFrom_25 ?_
        refine cr_iald X ((cr_b3 E).at (cr_row S0 8 G 3) rfl) dX6_timesFrom_26 ?_
        refine cr_bipush X (42 : Int32) (by decide) dX6_timesFrom_27 ?_
        refine cr_icmp_ne X 40 dX6_timesFrom_29 rfl ?_ ?_
        · refine cr_iinc X (x2 + 1) (fun v40_1 => [(2, .int v40_1), (0, .ref (E.2.1 8 2))]) 1 rfl rfl (fun _ => rfl) (by decide) dX6_timesFrom_40 (fun v40_1 => ?_)
          refine cr_goto X 2 dX6_timesFrom_43 rfl ?_
          refine cr_sub (lv' := [(0, .ref (E.2.1 8 2)), (2, .int v40_1)]) [1, 0] rfl ?_
          exact ih v40_1
        · refine cr_aload_n X 0 rfl dX6_timesFrom_32 ?_
          refine cr_iload_n X 1 rfl dX6_timesFrom_33 ?_
          refine cr_iconst X (1 : Int32) (by decide) dX6_timesFrom_34 ?_
          refine cr_iadd X dX6_timesFrom_35 ?_
          refine cr_callV X (As := [.int ((x2 + (1 : Int32)))]) (rest := []) (c_X6_valueFrom Γ.2.1 E hEK S0 G ((x2 + (1 : Int32)))) ((cr_b2 E).at (cr_row S0 8 G 2) rfl) rfl 1 gX6_timesFrom_X6_valueFrom rfl rfl rfl (by decide +kernel) ⟨Nat.le_of_ble_eq_true rfl, Nat.le_of_ble_eq_true rfl⟩ (by decide) rfl rfl (Nat.le_of_ble_eq_true rfl) dX6_timesFrom_36 (fun r36_2 => ?_)
          show cr_P Γ E 3 _ 0 0 (cr_us S0 8 G) 39 ([(0, .ref (E.2.1 8 2)), (2, .int x2)]) ([.int r36_2]) _
          exact cr_iret X rfl rfl dX6_timesFrom_39
set_option maxHeartbeats 4000000 in
set_option maxRecDepth 100000 in
theorem c_X6_timesFrom (l : Launch) (E : cr_E) (hEK : cr_EK E) (S0 : cr_S) (G : cr_G) (p1 : Int32) : cr_M l E yX6_timesFrom wsX6_timesFrom rm_X6_timesFrom [.ref (E.2.1 8 2), .int p1] (cr_us S0 8 G) (cr_vI (cr_us S0 8 G)) (s_X6_timesFrom G p1) := by
  refine cr_enter (cc := cX6_timesFrom) (nL := 3) (rt := (some .int)) hEK (by decide) rfl (Nat.le_of_ble_eq_true rfl) (fun Γ hΓ X => ?_)
  subst hΓ
  have X : cr_X Γ E cX6_timesFrom 3 RX6 wsX6_timesFrom rm_X6_timesFrom (some .int) := X
  unfold s_X6_timesFrom
  show cr_P Γ E 3 _ 0 0 (cr_us S0 8 G) 0 ([(0, .ref (E.2.1 8 2)), (1, .int p1)]) [] _
  refine cr_iload_n X 1 rfl dX6_timesFrom_0 ?_
  refine cr_istore_n X ([(2, .int p1), (0, .ref (E.2.1 8 2)), (1, .int p1)]) rfl (by decide) dX6_timesFrom_1 ?_
  refine cr_sub (lv' := [(0, .ref (E.2.1 8 2)), (2, .int p1)]) [1, 0] rfl ?_
  exact b_X6_timesFrom_2 X S0 G 1200 p1
theorem c_X6_timesFrom_S (l : Launch) (E : cr_E) (hEK : cr_EK E) (S : cr_S) (p1 : Int32) : cr_M l E yX6_timesFrom wsX6_timesFrom rm_X6_timesFrom [.ref (E.2.1 8 2), .int p1] S (cr_vI S) (s_X6_timesFrom (S.1 8) p1) := by
  have h := c_X6_timesFrom l E hEK S (S.1 8) p1
  rw [cr_us_self] at h
  exact h
theorem k_X6_numberCount_1 : (Cond.fieldLink RX6 15 "CraneCampaign$WindText" "length" "I") ∈ wsX6_numberCount := List.mem_of_getElem? (i := 1) (by rfl)
theorem k_X6_numberCount_2 : (Cond.fieldLink RX6 9 "CraneCampaign$WindText" "letters" "[I") ∈ wsX6_numberCount := List.mem_of_getElem? (i := 2) (by rfl)
theorem i_X6_numberCount_X6 : ∀ w ∈ wsX60, w ∈ wsX6_numberCount := by decide +kernel
abbrev rm_X6_numberCount : Room := { frames := 2, cells := 0, slots := 0, locals := 45 }
set_option maxHeartbeats 4000000 in
set_option maxRecDepth 100000 in
theorem b_X6_numberCount_29 {Γ : cr_C} {E : cr_E} (X : cr_X Γ E cX6_numberCount 3 RX6 wsX6_numberCount rm_X6_numberCount (some .int)) (S0 : cr_S) (G : cr_G) (k4 : Int32 → Int32 → Option Int32) (hk4 : ∀ (x1 : Int32) (x2 : Int32), cr_P Γ E 3 (cr_F Γ E (cr_vI (cr_us S0 8 G))) 0 0 (cr_us S0 8 G) 4 ([(0, .ref (E.2.1 8 2)), (1, .int x1), (2, .int x2)]) [] (k4 x1 x2)) (x1 : Int32) (x2 : Int32) : cr_P Γ E 3 (cr_F Γ E (cr_vI (cr_us S0 8 G))) 0 0 (cr_us S0 8 G) 29 ([(0, .ref (E.2.1 8 2)), (1, .int x1), (2, .int x2)]) ([]) (s_X6_numberCount_29 G k4 x1 x2) := by
  have hEK := X.2.2.2.2.2.2.1
  unfold s_X6_numberCount_29
  refine cr_iload_n X 1 rfl dX6_numberCount_29 ?_
  refine cr_aload_n X 0 rfl dX6_numberCount_30 ?_
  refine cr_iload_n X 2 rfl dX6_numberCount_31 ?_
  refine cr_callV X (As := [.int x2]) (rest := [.int x1]) (c_X6_timesFrom Γ.2.1 E hEK S0 G x2) ((cr_b2 E).at (cr_row S0 8 G 2) rfl) rfl 1 gX6_numberCount_X6_timesFrom rfl rfl rfl (by decide +kernel) ⟨Nat.le_of_ble_eq_true rfl, Nat.le_of_ble_eq_true rfl⟩ (by decide) rfl rfl (Nat.le_of_ble_eq_true rfl) dX6_numberCount_32 (fun r32_2 => ?_)
  show cr_P Γ E 3 _ 0 0 (cr_us S0 8 G) 35 ([(0, .ref (E.2.1 8 2)), (1, .int x1), (2, .int x2)]) ([.int r32_2, .int x1]) _
  refine cr_iadd X dX6_numberCount_35 ?_
  refine cr_istore_nb X (fun v36_3 => [(1, .int v36_3), (0, .ref (E.2.1 8 2)), (2, .int x2)]) (fun _ => rfl) (by decide) dX6_numberCount_36 (fun v36_3 => ?_)
  refine cr_iinc X (x2 + 1) (fun v37_4 => [(2, .int v37_4), (1, .int v36_3), (0, .ref (E.2.1 8 2))]) 2 rfl rfl (fun _ => rfl) (by decide) dX6_numberCount_37 (fun v37_4 => ?_)
  refine cr_goto X 4 dX6_numberCount_40 rfl ?_
  refine cr_sub (lv' := [(0, .ref (E.2.1 8 2)), (1, .int v36_3), (2, .int v37_4)]) [2, 1, 0] rfl ?_
  exact hk4 v36_3 v37_4
set_option maxHeartbeats 4000000 in
set_option maxRecDepth 100000 in
theorem b_X6_numberCount_4 {Γ : cr_C} {E : cr_E} (X : cr_X Γ E cX6_numberCount 3 RX6 wsX6_numberCount rm_X6_numberCount (some .int)) (S0 : cr_S) (G : cr_G) : ∀ (n : Nat) (x1 : Int32) (x2 : Int32), cr_P Γ E 3 (cr_F Γ E (cr_vI (cr_us S0 8 G))) 0 0 (cr_us S0 8 G) 4 ([(0, .ref (E.2.1 8 2)), (1, .int x1), (2, .int x2)]) ([]) (s_X6_numberCount_4 G n x1 x2) := by
  have hEK := X.2.2.2.2.2.2.1
  intro n
  induction n with
  | zero => intro x1 x2; exact cr_none
  | succ n ih =>
    intro x1 x2
    rw [s_X6_numberCount_4]
    refine cr_iload_n X 2 rfl dX6_numberCount_4 ?_
    refine cr_aload_n X 0 rfl dX6_numberCount_5 ?_
    refine cr_get X ((cr_b2 E).at (cr_row S0 8 G 2) rfl) rfl i_X6_numberCount_X6 1 (by decide) k_X6_numberCount_1 rfl dX6_numberCount_6 ?_
    refine cr_icmp_ge X 43 dX6_numberCount_9 rfl ?_ ?_
    · refine cr_iload_n X 1 rfl dX6_numberCount_43 ?_
      exact cr_iret X rfl rfl dX6_numberCount_44
    · refine cr_iload_n X 2 rfl dX6_numberCount_12 ?_
      refine cr_if_eq X 29 dX6_numberCount_13 rfl ?_ ?_
      · refine cr_sub (lv' := [(0, .ref (E.2.1 8 2)), (1, .int x1), (2, .int x2)]) [0, 1, 2] rfl ?_
        exact b_X6_numberCount_29 X S0 G (fun x1a x2a => s_X6_numberCount_4 G n x1a x2a) ih x1 x2
      · refine cr_aload_n X 0 rfl dX6_numberCount_16 ?_
        refine cr_get X ((cr_b2 E).at (cr_row S0 8 G 2) rfl) rfl i_X6_numberCount_X6 0 (by decide) k_X6_numberCount_2 rfl dX6_numberCount_17 ?_
        refine cr_iload_n X 2 rfl dX6_numberCount_20 ?_
        refine cr_iconst X (1 : Int32) (by decide) dX6_numberCount_21 ?_
        refine cr_isub X dX6_numberCount_22 ?_
        refine cr_iald X ((cr_b3 E).at (cr_row S0 8 G 3) rfl) dX6_numberCount_23 ?_
        refine cr_bipush X (44 : Int32) (by decide) dX6_numberCount_24 ?_
        refine cr_icmp_ne X 37 dX6_numberCount_26 rfl ?_ ?_
        · refine cr_iinc X (x2 + 1) (fun v37_1 => [(2, .int v37_1), (0, .ref (E.2.1 8 2)), (1, .int x1)]) 2 rfl rfl (fun _ => rfl) (by decide) dX6_numberCount_37 (fun v37_1 => ?_)
          refine cr_goto X 4 dX6_numberCount_40 rfl ?_
          refine cr_sub (lv' := [(0, .ref (E.2.1 8 2)), (1, .int x1), (2, .int v37_1)]) [1, 2, 0] rfl ?_
          exact ih x1 v37_1
        · refine cr_sub (lv' := [(0, .ref (E.2.1 8 2)), (1, .int x1), (2, .int x2)]) [0, 1, 2] rfl ?_
          exact b_X6_numberCount_29 X S0 G (fun x1a x2a => s_X6_numberCount_4 G n x1a x2a) ih x1 x2
set_option maxHeartbeats 4000000 in
set_option maxRecDepth 100000 in
theorem c_X6_numberCount (l : Launch) (E : cr_E) (hEK : cr_EK E) (S0 : cr_S) (G : cr_G) : cr_M l E yX6_numberCount wsX6_numberCount rm_X6_numberCount [.ref (E.2.1 8 2)] (cr_us S0 8 G) (cr_vI (cr_us S0 8 G)) (s_X6_numberCount G) := by
  refine cr_enter (cc := cX6_numberCount) (nL := 3) (rt := (some .int)) hEK (by decide) rfl (Nat.le_of_ble_eq_true rfl) (fun Γ hΓ X => ?_)
  subst hΓ
  have X : cr_X Γ E cX6_numberCount 3 RX6 wsX6_numberCount rm_X6_numberCount (some .int) := X
  unfold s_X6_numberCount
  show cr_P Γ E 3 _ 0 0 (cr_us S0 8 G) 0 ([(0, .ref (E.2.1 8 2))]) [] _
  refine cr_iconst X (0 : Int32) (by decide) dX6_numberCount_0 ?_
  refine cr_istore_n X ([(1, .int ((0 : Int32))), (0, .ref (E.2.1 8 2))]) rfl (by decide) dX6_numberCount_1 ?_
  refine cr_iconst X (0 : Int32) (by decide) dX6_numberCount_2 ?_
  refine cr_istore_n X ([(2, .int ((0 : Int32))), (1, .int ((0 : Int32))), (0, .ref (E.2.1 8 2))]) rfl (by decide) dX6_numberCount_3 ?_
  refine cr_sub (lv' := [(0, .ref (E.2.1 8 2)), (1, .int ((0 : Int32))), (2, .int ((0 : Int32)))]) [2, 1, 0] rfl ?_
  exact b_X6_numberCount_4 X S0 G 1200 ((0 : Int32)) ((0 : Int32))
theorem c_X6_numberCount_S (l : Launch) (E : cr_E) (hEK : cr_EK E) (S : cr_S) : cr_M l E yX6_numberCount wsX6_numberCount rm_X6_numberCount [.ref (E.2.1 8 2)] S (cr_vI S) (s_X6_numberCount (S.1 8)) := by
  have h := c_X6_numberCount l E hEK S (S.1 8)
  rw [cr_us_self] at h
  exact h
theorem k_X6_writeTo_1 : (Cond.fieldLink RX6 47 "CraneCampaign$Winds" "count" "I") ∈ wsX6_writeTo := List.mem_of_getElem? (i := 1) (by rfl)
theorem k_X6_writeTo_2 : (Cond.fieldLink RX6 15 "CraneCampaign$WindText" "length" "I") ∈ wsX6_writeTo := List.mem_of_getElem? (i := 2) (by rfl)
theorem k_X6_writeTo_3 : (Cond.fieldLink RX6 9 "CraneCampaign$WindText" "letters" "[I") ∈ wsX6_writeTo := List.mem_of_getElem? (i := 3) (by rfl)
theorem i_X6_writeTo_X6 : ∀ w ∈ wsX60, w ∈ wsX6_writeTo := by decide +kernel
theorem i_X6_writeTo_X7 : ∀ w ∈ wsX70, w ∈ wsX6_writeTo := by decide +kernel
abbrev rm_X6_writeTo : Room := { frames := 2, cells := 0, slots := 0, locals := 45 }
set_option maxHeartbeats 4000000 in
set_option maxRecDepth 100000 in
theorem b_X6_writeTo_48 {Γ : cr_C} {E : cr_E} (X : cr_X Γ E cX6_writeTo 6 RX6 wsX6_writeTo rm_X6_writeTo none) (k7 : Int32 → cr_S → Option cr_S) (hk7 : ∀ (x2 : Int32) (S : cr_S), cr_P Γ E 6 (cr_F Γ E cr_vVS) 0 0 S 7 ([(0, .ref (E.2.1 8 2)), (1, .ref (E.2.1 0 11)), (2, .int x2)]) [] (k7 x2 S)) : ∀ (n : Nat) (x2 : Int32) (x3 : Int32) (x4 : Int32) (x5 : Int32) (S : cr_S), cr_P Γ E 6 (cr_F Γ E cr_vVS) 0 0 S 48 ([(0, .ref (E.2.1 8 2)), (1, .ref (E.2.1 0 11)), (2, .int x2), (3, .int x3), (4, .int x4), (5, .int x5)]) ([]) (s_X6_writeTo_48 k7 n x2 x3 x4 x5 S) := by
  have hEK := X.2.2.2.2.2.2.1
  intro n
  induction n with
  | zero => intro x2 x3 x4 x5 S; exact cr_none
  | succ n ih =>
    intro x2 x3 x4 x5 S
    rw [s_X6_writeTo_48]
    refine cr_iload X 5 rfl dX6_writeTo_48 ?_
    refine cr_iload X 4 rfl dX6_writeTo_50 ?_
    refine cr_icmp_ge X 66 dX6_writeTo_52 rfl ?_ ?_
    · refine cr_iinc X (x2 + 1) (fun v66_5 => [(2, .int v66_5), (0, .ref (E.2.1 8 2)), (1, .ref (E.2.1 0 11)), (3, .int x3), (4, .int x4), (5, .int x5)]) 2 rfl rfl (fun _ => rfl) (by decide) dX6_writeTo_66 (fun v66_5 => ?_)
      refine cr_goto X 7 dX6_writeTo_69 rfl ?_
      refine cr_sub (lv' := [(0, .ref (E.2.1 8 2)), (1, .ref (E.2.1 0 11)), (2, .int v66_5)]) [1, 2, 0] rfl ?_
      exact hk7 v66_5 S
    · refine cr_aload_n X 1 rfl dX6_writeTo_55 ?_
      refine cr_iload_n X 3 rfl dX6_writeTo_56 ?_
      refine cr_callV X (As := [.int x3]) (rest := []) (c_X7_add_S Γ.2.1 E hEK S (show 0 < 8 by decide) x3) ((cr_a11 E (show 0 < 8 by decide)).at rfl rfl) rfl 1 gX6_writeTo_X7_add rfl rfl rfl (by decide +kernel) ⟨Nat.le_of_ble_eq_true rfl, Nat.le_of_ble_eq_true rfl⟩ (by decide) rfl rfl (Nat.le_of_ble_eq_true rfl) dX6_writeTo_57 (fun r57_6 => ?_)
      show cr_P Γ E 6 _ 0 0 (cr_us S 0 r57_6) 60 ([(0, .ref (E.2.1 8 2)), (1, .ref (E.2.1 0 11)), (2, .int x2), (3, .int x3), (4, .int x4), (5, .int x5)]) ([]) _
      refine cr_bds (fun S57_7 => ?_)
      refine cr_iinc X (x5 + 1) (fun v60_8 => [(5, .int v60_8), (0, .ref (E.2.1 8 2)), (1, .ref (E.2.1 0 11)), (2, .int x2), (3, .int x3), (4, .int x4)]) 5 rfl rfl (fun _ => rfl) (by decide) dX6_writeTo_60 (fun v60_8 => ?_)
      refine cr_goto X 48 dX6_writeTo_63 rfl ?_
      refine cr_sub (lv' := [(0, .ref (E.2.1 8 2)), (1, .ref (E.2.1 0 11)), (2, .int x2), (3, .int x3), (4, .int x4), (5, .int v60_8)]) [1, 2, 3, 4, 5, 0] rfl ?_
      exact ih x2 x3 x4 v60_8 S57_7
set_option maxHeartbeats 4000000 in
set_option maxRecDepth 100000 in
theorem b_X6_writeTo_32 {Γ : cr_C} {E : cr_E} (X : cr_X Γ E cX6_writeTo 6 RX6 wsX6_writeTo rm_X6_writeTo none) (k7 : Int32 → cr_S → Option cr_S) (hk7 : ∀ (x2 : Int32) (S : cr_S), cr_P Γ E 6 (cr_F Γ E cr_vVS) 0 0 S 7 ([(0, .ref (E.2.1 8 2)), (1, .ref (E.2.1 0 11)), (2, .int x2)]) [] (k7 x2 S)) (x2 : Int32) (S : cr_S) : cr_P Γ E 6 (cr_F Γ E cr_vVS) 0 0 S 32 ([(0, .ref (E.2.1 8 2)), (1, .ref (E.2.1 0 11)), (2, .int x2)]) ([]) (s_X6_writeTo_32 k7 x2 S) := by
  have hEK := X.2.2.2.2.2.2.1
  unfold s_X6_writeTo_32
  refine cr_aload_n X 0 rfl dX6_writeTo_32 ?_
  refine cr_iload_n X 2 rfl dX6_writeTo_33 ?_
  refine cr_callV X (As := [.int x2]) (rest := []) (c_X6_valueFrom_S Γ.2.1 E hEK S x2) ((cr_b2 E).at rfl rfl) rfl 1 gX6_writeTo_X6_valueFrom rfl rfl rfl (by decide +kernel) ⟨Nat.le_of_ble_eq_true rfl, Nat.le_of_ble_eq_true rfl⟩ (by decide) rfl rfl (Nat.le_of_ble_eq_true rfl) dX6_writeTo_34 (fun r34_3 => ?_)
  show cr_P Γ E 6 _ 0 0 S 37 ([(0, .ref (E.2.1 8 2)), (1, .ref (E.2.1 0 11)), (2, .int x2)]) ([.int r34_3]) _
  refine cr_istore_n X ([(3, .int r34_3), (0, .ref (E.2.1 8 2)), (1, .ref (E.2.1 0 11)), (2, .int x2)]) rfl (by decide) dX6_writeTo_37 ?_
  refine cr_aload_n X 1 rfl dX6_writeTo_38 ?_
  refine cr_iload_n X 3 rfl dX6_writeTo_39 ?_
  refine cr_callV X (As := [.int x2]) (rest := []) (c_X6_timesFrom_S Γ.2.1 E hEK S x2) ((cr_b2 E).at rfl rfl) rfl 1 gX6_writeTo_X6_timesFrom rfl rfl rfl (by decide +kernel) ⟨Nat.le_of_ble_eq_true rfl, Nat.le_of_ble_eq_true rfl⟩ (by decide) rfl rfl (Nat.le_of_ble_eq_true rfl) dX6_writeTo_40 (fun r40_4 => ?_)
  show cr_P Γ E 6 _ 0 0 S 43 ([(3, .int r34_3), (0, .ref (E.2.1 8 2)), (1, .ref (E.2.1 0 11)), (2, .int x2)]) ([.int r40_4]) _
  refine cr_istore X ([(4, .int r40_4), (3, .int r34_3), (0, .ref (E.2.1 8 2)), (1, .ref (E.2.1 0 11)), (2, .int x2)]) rfl (by decide) dX6_writeTo_43 ?_
  refine cr_iconst X (0 : Int32) (by decide) dX6_writeTo_45 ?_
  refine cr_istore X ([(5, .int ((0 : Int32))), (4, .int r40_4), (3, .int r34_3), (0, .ref (E.2.1 8 2)), (1, .ref (E.2.1 0 11)), (2, .int x2)]) rfl (by decide) dX6_writeTo_46 ?_
  refine cr_sub (lv' := [(0, .ref (E.2.1 8 2)), (1, .ref (E.2.1 0 11)), (2, .int x2), (3, .int r34_3), (4, .int r40_4), (5, .int ((0 : Int32)))]) [3, 4, 5, 2, 1, 0] rfl ?_
  exact b_X6_writeTo_48 X k7 hk7 1200 x2 r34_3 r40_4 ((0 : Int32)) S
set_option maxHeartbeats 4000000 in
set_option maxRecDepth 100000 in
theorem b_X6_writeTo_7 {Γ : cr_C} {E : cr_E} (X : cr_X Γ E cX6_writeTo 6 RX6 wsX6_writeTo rm_X6_writeTo none) : ∀ (n : Nat) (x2 : Int32) (S : cr_S), cr_P Γ E 6 (cr_F Γ E cr_vVS) 0 0 S 7 ([(0, .ref (E.2.1 8 2)), (1, .ref (E.2.1 0 11)), (2, .int x2)]) ([]) (s_X6_writeTo_7 n x2 S) := by
  have hEK := X.2.2.2.2.2.2.1
  intro n
  induction n with
  | zero => intro x2 S; exact cr_none
  | succ n ih =>
    intro x2 S
    rw [s_X6_writeTo_7]
    refine cr_iload_n X 2 rfl dX6_writeTo_7 ?_
    refine cr_aload_n X 0 rfl dX6_writeTo_8 ?_
    refine cr_get X ((cr_b2 E).at rfl rfl) rfl i_X6_writeTo_X6 1 (by decide) k_X6_writeTo_2 rfl dX6_writeTo_9 ?_
    refine cr_icmp_ge X 72 dX6_writeTo_12 rfl ?_ ?_
    · exact cr_vret X rfl rfl dX6_writeTo_72
    · refine cr_iload_n X 2 rfl dX6_writeTo_15 ?_
      refine cr_if_eq X 32 dX6_writeTo_16 rfl ?_ ?_
      · refine cr_sub (lv' := [(0, .ref (E.2.1 8 2)), (1, .ref (E.2.1 0 11)), (2, .int x2)]) [0, 1, 2] rfl ?_
        exact b_X6_writeTo_32 X (fun x2a Sa => s_X6_writeTo_7 n x2a Sa) ih x2 S
      · refine cr_aload_n X 0 rfl dX6_writeTo_19 ?_
        refine cr_get X ((cr_b2 E).at rfl rfl) rfl i_X6_writeTo_X6 0 (by decide) k_X6_writeTo_3 rfl dX6_writeTo_20 ?_
        refine cr_iload_n X 2 rfl dX6_writeTo_23 ?_
        refine cr_iconst X (1 : Int32) (by decide) dX6_writeTo_24 ?_
        refine cr_isub X dX6_writeTo_25 ?_
        refine cr_iald X ((cr_b3 E).at rfl rfl) dX6_writeTo_26 ?_
        refine cr_bipush X (44 : Int32) (by decide) dX6_writeTo_27 ?_
        refine cr_icmp_ne X 66 dX6_writeTo_29 rfl ?_ ?_
        · refine cr_iinc X (x2 + 1) (fun v66_2 => [(2, .int v66_2), (0, .ref (E.2.1 8 2)), (1, .ref (E.2.1 0 11))]) 2 rfl rfl (fun _ => rfl) (by decide) dX6_writeTo_66 (fun v66_2 => ?_)
          refine cr_goto X 7 dX6_writeTo_69 rfl ?_
          refine cr_sub (lv' := [(0, .ref (E.2.1 8 2)), (1, .ref (E.2.1 0 11)), (2, .int v66_2)]) [1, 2, 0] rfl ?_
          exact ih v66_2 S
        · refine cr_sub (lv' := [(0, .ref (E.2.1 8 2)), (1, .ref (E.2.1 0 11)), (2, .int x2)]) [0, 1, 2] rfl ?_
          exact b_X6_writeTo_32 X (fun x2a Sa => s_X6_writeTo_7 n x2a Sa) ih x2 S
set_option maxHeartbeats 4000000 in
set_option maxRecDepth 100000 in
theorem c_X6_writeTo (l : Launch) (E : cr_E) (hEK : cr_EK E) (S : cr_S) : cr_M l E yX6_writeTo wsX6_writeTo rm_X6_writeTo [.ref (E.2.1 8 2), .ref (E.2.1 0 11)] S cr_vVS (s_X6_writeTo S) := by
  refine cr_enter (cc := cX6_writeTo) (nL := 6) (rt := none) hEK (by decide) rfl (Nat.le_of_ble_eq_true rfl) (fun Γ hΓ X => ?_)
  subst hΓ
  have X : cr_X Γ E cX6_writeTo 6 RX6 wsX6_writeTo rm_X6_writeTo none := X
  unfold s_X6_writeTo
  show cr_P Γ E 6 _ 0 0 S 0 ([(0, .ref (E.2.1 8 2)), (1, .ref (E.2.1 0 11))]) [] _
  refine cr_aload_n X 1 rfl dX6_writeTo_0 ?_
  refine cr_iconst X (0 : Int32) (by decide) dX6_writeTo_1 ?_
  refine cr_putS X (cr_a11 E (show 0 < 8 by decide)) 1 rfl rfl rfl i_X6_writeTo_X7 tyX7 tyX7_ok nmX7 (by decide) k_X6_writeTo_1 rfl rfl rfl (Nat.le_of_ble_eq_true rfl) dX6_writeTo_2 (fun S2_1 => ?_)
  refine cr_iconst X (0 : Int32) (by decide) dX6_writeTo_5 ?_
  refine cr_istore_n X ([(2, .int ((0 : Int32))), (0, .ref (E.2.1 8 2)), (1, .ref (E.2.1 0 11))]) rfl (by decide) dX6_writeTo_6 ?_
  refine cr_sub (lv' := [(0, .ref (E.2.1 8 2)), (1, .ref (E.2.1 0 11)), (2, .int ((0 : Int32)))]) [1, 2, 0] rfl ?_
  exact b_X6_writeTo_7 X 1200 ((0 : Int32)) S2_1
