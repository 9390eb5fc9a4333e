abbrev rm_L_ahead : Room := { frames := 6, cells := 4, slots := 104, locals := 144 }
set_option maxHeartbeats 4000000 in
set_option maxRecDepth 100000 in
theorem b_L_ahead_383 {Γ : cr_C} {E : cr_E} (X : cr_X Γ E cL_ahead 21 RL wsL_ahead rm_L_ahead (some .boolean)) (hfl : cr_fl E) {Φ : Bool × cr_S → (State → Prop) → Prop} (hend : ∀ (b : Bool) (S : cr_S) (pc : Nat) (lv : List (Nat × Value)), decode cL_ahead pc = .ok (.ireturn, 1) → cr_P Γ E 21 Φ 4 104 S pc lv [.int (cr_b b)] (some (b, S))) (x1 : Int32) (x13 : Int32) (y0 : Int32) (S : cr_S) : cr_P Γ E 21 Φ 4 104 S 383 ([(0, .ref (E.2.1 8 0)), (1, .int x1), (2, .ref (E.2.1 9 0)), (5, .ref (E.2.1 11 0)), (6, .ref (E.2.1 11 1)), (8, .ref (E.2.1 9 3)), (13, .int x13)]) ([.int y0]) (s_L_ahead_383 x1 x13 y0 S) := by
  have hEK := X.2.2.2.2.2.2.1
  unfold s_L_ahead_383
  refine cr_istore X ([(15, .int y0), (0, .ref (E.2.1 8 0)), (1, .int x1), (2, .ref (E.2.1 9 0)), (5, .ref (E.2.1 11 0)), (6, .ref (E.2.1 11 1)), (8, .ref (E.2.1 9 3)), (13, .int x13)]) rfl (by decide) dL_ahead_383 ?_
  refine cr_iconst X (1 : Int32) (by decide) dL_ahead_385 ?_
  refine cr_iload_n X 2 rfl dL_ahead_386 ?_
  refine cr_iconst X (4 : Int32) (by decide) dL_ahead_387 ?_
  refine cr_ishr X dL_ahead_388 ?_
  refine cr_bipush X (8 : Int32) (by decide) dL_ahead_389 ?_
  refine cr_callS X (As := [.int ((x1 >>> ((4 : Int32) &&& 31))), .int ((8 : Int32))]) (rest := [.int ((1 : Int32))]) (c_L_at Γ.2.1 E hEK S ((x1 >>> ((4 : Int32) &&& 31))) ((8 : Int32))) 2 gL_ahead_L_at rfl rfl rfl (by decide +kernel) ⟨Nat.le_of_ble_eq_true rfl, Nat.le_of_ble_eq_true rfl⟩ (by decide) rfl rfl (Nat.le_of_ble_eq_true rfl) dL_ahead_391 (fun r391_11 => ?_)
  show cr_P Γ E 21 _ 4 104 S 394 ([(15, .int y0), (0, .ref (E.2.1 8 0)), (1, .int x1), (2, .ref (E.2.1 9 0)), (5, .ref (E.2.1 11 0)), (6, .ref (E.2.1 11 1)), (8, .ref (E.2.1 9 3)), (13, .int x13)]) ([.int r391_11, .int ((1 : Int32))]) _
  refine cr_iadd X dL_ahead_394 ?_
  refine cr_istoreb X (fun v395_12 => [(16, .int v395_12), (15, .int y0), (0, .ref (E.2.1 8 0)), (1, .int x1), (2, .ref (E.2.1 9 0)), (5, .ref (E.2.1 11 0)), (6, .ref (E.2.1 11 1)), (8, .ref (E.2.1 9 3)), (13, .int x13)]) (fun _ => rfl) (by decide) dL_ahead_395 (fun v395_12 => ?_)
  refine cr_aload_n X 2 rfl dL_ahead_397 ?_
  refine cr_callV X (As := []) (rest := []) (c_X8_bestFirst Γ.2.1 E hEK S) ((cr_b0 E).at rfl rfl) rfl 0 gL_ahead_X8_bestFirst rfl rfl rfl (by decide +kernel) ⟨Nat.le_of_ble_eq_true rfl, Nat.le_of_ble_eq_true rfl⟩ (by decide) rfl rfl (Nat.le_of_ble_eq_true rfl) dL_ahead_398 (fun r398_13 => ?_)
  show cr_P Γ E 21 _ 4 104 r398_13.2 401 ([(16, .int v395_12), (15, .int y0), (0, .ref (E.2.1 8 0)), (1, .int x1), (2, .ref (E.2.1 9 0)), (5, .ref (E.2.1 11 0)), (6, .ref (E.2.1 11 1)), (8, .ref (E.2.1 9 3)), (13, .int x13)]) ([.int r398_13.1]) _
  refine cr_iload X 8 rfl dL_ahead_401 ?_
  refine cr_icmp_ne X 443 dL_ahead_403 rfl ?_ ?_
  · refine cr_iconst X (0 : Int32) (by decide) dL_ahead_443 ?_
    exact hend false r398_13.2 _ _ dL_ahead_444
  · refine cr_aload X 7 rfl dL_ahead_406 ?_
    refine cr_bipush X (6 : Int32) (by decide) dL_ahead_408 ?_
    refine cr_ialdk X 6 (by decide) (by decide) ((cr_n3 E (cr_g9 E)).at rfl rfl) dL_ahead_410 ?_
    refine cr_if_eq X 439 dL_ahead_411 rfl ?_ ?_
    · refine cr_iconst X (1 : Int32) (by decide) dL_ahead_439 ?_
      refine cr_goto X 444 dL_ahead_440 rfl ?_
      exact hend true r398_13.2 _ _ dL_ahead_444
    · refine cr_aload_n X 2 rfl dL_ahead_414 ?_
      refine cr_iload X 1 rfl dL_ahead_415 ?_
      refine cr_iload X 0 rfl dL_ahead_417 ?_
      refine cr_callV X (As := [.int y0, .int v395_12]) (rest := []) (c_X8_window Γ.2.1 E hEK r398_13.2 y0 v395_12) ((cr_b0 E).at rfl rfl) rfl 2 gL_ahead_X8_window rfl rfl rfl (by decide +kernel) ⟨Nat.le_of_ble_eq_true rfl, Nat.le_of_ble_eq_true rfl⟩ (by decide) rfl rfl (Nat.le_of_ble_eq_true rfl) dL_ahead_419 (fun r419_14 => ?_)
      show cr_P Γ E 21 _ 4 104 r398_13.2 422 ([(16, .int v395_12), (15, .int y0), (0, .ref (E.2.1 8 0)), (1, .int x1), (2, .ref (E.2.1 9 0)), (5, .ref (E.2.1 11 0)), (6, .ref (E.2.1 11 1)), (8, .ref (E.2.1 9 3)), (13, .int x13)]) ([.int r419_14]) _
      refine cr_iload X 1 rfl dL_ahead_422 ?_
      refine cr_iload X 0 rfl dL_ahead_424 ?_
      refine cr_aload_n X 4 rfl dL_ahead_426 ?_
      refine cr_aload X 5 rfl dL_ahead_427 ?_
      refine cr_aload X 6 rfl dL_ahead_429 ?_
      refine cr_aload X 7 rfl dL_ahead_431 ?_
      refine cr_callS X (As := [.int y0, .int v395_12, .ref (E.2.1 9 0), .ref (E.2.1 11 0), .ref (E.2.1 11 1), .ref (E.2.1 9 3)]) (rest := [.int r419_14]) (c_L_window_S Γ.2.1 E hEK r398_13.2 (cr_g9 E) y0 v395_12) 6 gL_ahead_L_window rfl rfl rfl (by decide +kernel) ⟨Nat.le_of_ble_eq_true rfl, Nat.le_of_ble_eq_true rfl⟩ (by decide) rfl rfl (Nat.le_of_ble_eq_true rfl) dL_ahead_433 (fun r433_15 => ?_)
      show cr_P Γ E 21 _ 4 104 r398_13.2 436 ([(16, .int v395_12), (15, .int y0), (0, .ref (E.2.1 8 0)), (1, .int x1), (2, .ref (E.2.1 9 0)), (5, .ref (E.2.1 11 0)), (6, .ref (E.2.1 11 1)), (8, .ref (E.2.1 9 3)), (13, .int x13)]) ([.int r433_15, .int r419_14]) _
      refine cr_icmp_ne X 443 dL_ahead_436 rfl ?_ ?_
      · refine cr_iconst X (0 : Int32) (by decide) dL_ahead_443 ?_
        exact hend false r398_13.2 _ _ dL_ahead_444
      · refine cr_iconst X (1 : Int32) (by decide) dL_ahead_439 ?_
        refine cr_goto X 444 dL_ahead_440 rfl ?_
        exact hend true r398_13.2 _ _ dL_ahead_444
set_option maxHeartbeats 4000000 in
set_option maxRecDepth 100000 in
theorem b_L_ahead_331 {Γ : cr_C} {E : cr_E} (X : cr_X Γ E cL_ahead 21 RL wsL_ahead rm_L_ahead (some .boolean)) (hfl : cr_fl E) {Φ : Bool × cr_S → (State → Prop) → Prop} (hend : ∀ (b : Bool) (S : cr_S) (pc : Nat) (lv : List (Nat × Value)), decode cL_ahead pc = .ok (.ireturn, 1) → cr_P Γ E 21 Φ 4 104 S pc lv [.int (cr_b b)] (some (b, S))) (k33 : Int32 → Int32 → Int32 → Int32 → cr_S → Option (Bool × cr_S)) (hk33 : ∀ (x1 : Int32) (x13 : Int32) (x14 : Int32) (x15 : Int32) (S : cr_S), cr_P Γ E 21 Φ 4 104 S 33 ([(0, .ref (E.2.1 8 0)), (1, .int x1), (2, .ref (E.2.1 9 0)), (3, .ref (E.2.1 9 1)), (4, .ref (E.2.1 9 2)), (5, .ref (E.2.1 11 0)), (6, .ref (E.2.1 11 1)), (7, .ref (E.2.1 11 2)), (8, .ref (E.2.1 9 3)), (9, .ref (E.2.1 10 0)), (10, .ref (E.2.1 10 1)), (11, .ref (E.2.1 10 2)), (12, .ref (E.2.1 10 3)), (13, .int x13), (14, .int x14), (15, .int x15)]) [] (k33 x1 x13 x14 x15 S)) (x1 : Int32) (x13 : Int32) (x14 : Int32) (x15 : Int32) (x16 : Int32) (x19 : Int32) (y0 : Int32) (S : cr_S) : cr_P Γ E 21 Φ 4 104 S 331 ([(0, .ref (E.2.1 8 0)), (1, .int x1), (2, .ref (E.2.1 9 0)), (3, .ref (E.2.1 9 1)), (4, .ref (E.2.1 9 2)), (5, .ref (E.2.1 11 0)), (6, .ref (E.2.1 11 1)), (7, .ref (E.2.1 11 2)), (8, .ref (E.2.1 9 3)), (9, .ref (E.2.1 10 0)), (10, .ref (E.2.1 10 1)), (11, .ref (E.2.1 10 2)), (12, .ref (E.2.1 10 3)), (13, .int x13), (14, .int x14), (15, .int x15), (16, .int x16), (19, .int x19)]) ([.int y0]) (s_L_ahead_331 k33 x1 x13 x14 x15 x16 x19 y0 S) := by
  have hEK := X.2.2.2.2.2.2.1
  unfold s_L_ahead_331
  refine cr_istore X ([(20, .int y0), (0, .ref (E.2.1 8 0)), (1, .int x1), (2, .ref (E.2.1 9 0)), (3, .ref (E.2.1 9 1)), (4, .ref (E.2.1 9 2)), (5, .ref (E.2.1 11 0)), (6, .ref (E.2.1 11 1)), (7, .ref (E.2.1 11 2)), (8, .ref (E.2.1 9 3)), (9, .ref (E.2.1 10 0)), (10, .ref (E.2.1 10 1)), (11, .ref (E.2.1 10 2)), (12, .ref (E.2.1 10 3)), (13, .int x13), (14, .int x14), (15, .int x15), (16, .int x16), (19, .int x19)]) rfl (by decide) dL_ahead_331 ?_
  refine cr_iload X 16 rfl dL_ahead_333 ?_
  refine cr_if_ne X 353 dL_ahead_335 rfl ?_ ?_
  · refine cr_iinc X (x15 + 1) (fun v353_23 => [(15, .int v353_23), (20, .int y0), (0, .ref (E.2.1 8 0)), (1, .int x1), (2, .ref (E.2.1 9 0)), (3, .ref (E.2.1 9 1)), (4, .ref (E.2.1 9 2)), (5, .ref (E.2.1 11 0)), (6, .ref (E.2.1 11 1)), (7, .ref (E.2.1 11 2)), (8, .ref (E.2.1 9 3)), (9, .ref (E.2.1 10 0)), (10, .ref (E.2.1 10 1)), (11, .ref (E.2.1 10 2)), (12, .ref (E.2.1 10 3)), (13, .int x13), (14, .int x14), (16, .int x16), (19, .int x19)]) 16 rfl rfl (fun _ => rfl) (by decide) dL_ahead_353 (fun v353_23 => ?_)
    refine cr_goto X 33 dL_ahead_356 rfl ?_
    refine cr_sub (lv' := [(0, .ref (E.2.1 8 0)), (1, .int x1), (2, .ref (E.2.1 9 0)), (3, .ref (E.2.1 9 1)), (4, .ref (E.2.1 9 2)), (5, .ref (E.2.1 11 0)), (6, .ref (E.2.1 11 1)), (7, .ref (E.2.1 11 2)), (8, .ref (E.2.1 9 3)), (9, .ref (E.2.1 10 0)), (10, .ref (E.2.1 10 1)), (11, .ref (E.2.1 10 2)), (12, .ref (E.2.1 10 3)), (13, .int x13), (14, .int x14), (15, .int v353_23)]) [2, 3, 4, 5, 6, 7, 8, 9, 10, 11, 12, 13, 14, 15, 16, 0] rfl ?_
    exact hk33 x1 x13 x14 v353_23 S
  · refine cr_aload_n X 1 rfl dL_ahead_338 ?_
    refine cr_iload X 17 rfl dL_ahead_339 ?_
    refine cr_iload X 18 rfl dL_ahead_341 ?_
    refine cr_callV X (As := [.int x16, .int x19]) (rest := []) (c_X8_ifPassed Γ.2.1 E hEK S x16 x19) ((cr_b0 E).at rfl rfl) rfl 2 gL_ahead_X8_ifPassed rfl rfl rfl (by decide +kernel) ⟨Nat.le_of_ble_eq_true rfl, Nat.le_of_ble_eq_true rfl⟩ (by decide) rfl rfl (Nat.le_of_ble_eq_true rfl) dL_ahead_343 (fun r343_24 => ?_)
    show cr_P Γ E 21 _ 4 104 r343_24.2 346 ([(20, .int y0), (0, .ref (E.2.1 8 0)), (1, .int x1), (2, .ref (E.2.1 9 0)), (3, .ref (E.2.1 9 1)), (4, .ref (E.2.1 9 2)), (5, .ref (E.2.1 11 0)), (6, .ref (E.2.1 11 1)), (7, .ref (E.2.1 11 2)), (8, .ref (E.2.1 9 3)), (9, .ref (E.2.1 10 0)), (10, .ref (E.2.1 10 1)), (11, .ref (E.2.1 10 2)), (12, .ref (E.2.1 10 3)), (13, .int x13), (14, .int x14), (15, .int x15), (16, .int x16), (19, .int x19)]) ([.int r343_24.1]) _
    refine cr_iload X 0 rfl dL_ahead_346 ?_
    refine cr_icmp_eq X 353 dL_ahead_348 rfl ?_ ?_
    · refine cr_iinc X (x15 + 1) (fun v353_25 => [(15, .int v353_25), (20, .int y0), (0, .ref (E.2.1 8 0)), (1, .int x1), (2, .ref (E.2.1 9 0)), (3, .ref (E.2.1 9 1)), (4, .ref (E.2.1 9 2)), (5, .ref (E.2.1 11 0)), (6, .ref (E.2.1 11 1)), (7, .ref (E.2.1 11 2)), (8, .ref (E.2.1 9 3)), (9, .ref (E.2.1 10 0)), (10, .ref (E.2.1 10 1)), (11, .ref (E.2.1 10 2)), (12, .ref (E.2.1 10 3)), (13, .int x13), (14, .int x14), (16, .int x16), (19, .int x19)]) 16 rfl rfl (fun _ => rfl) (by decide) dL_ahead_353 (fun v353_25 => ?_)
      refine cr_goto X 33 dL_ahead_356 rfl ?_
      refine cr_sub (lv' := [(0, .ref (E.2.1 8 0)), (1, .int x1), (2, .ref (E.2.1 9 0)), (3, .ref (E.2.1 9 1)), (4, .ref (E.2.1 9 2)), (5, .ref (E.2.1 11 0)), (6, .ref (E.2.1 11 1)), (7, .ref (E.2.1 11 2)), (8, .ref (E.2.1 9 3)), (9, .ref (E.2.1 10 0)), (10, .ref (E.2.1 10 1)), (11, .ref (E.2.1 10 2)), (12, .ref (E.2.1 10 3)), (13, .int x13), (14, .int x14), (15, .int v353_25)]) [2, 3, 4, 5, 6, 7, 8, 9, 10, 11, 12, 13, 14, 15, 16, 0] rfl ?_
      exact hk33 x1 x13 x14 v353_25 r343_24.2
    · refine cr_iconst X (0 : Int32) (by decide) dL_ahead_351 ?_
      exact hend false r343_24.2 _ _ dL_ahead_352
set_option maxHeartbeats 4000000 in
set_option maxRecDepth 100000 in
theorem b_L_ahead_262 {Γ : cr_C} {E : cr_E} (X : cr_X Γ E cL_ahead 21 RL wsL_ahead rm_L_ahead (some .boolean)) (hfl : cr_fl E) {Φ : Bool × cr_S → (State → Prop) → Prop} (hend : ∀ (b : Bool) (S : cr_S) (pc : Nat) (lv : List (Nat × Value)), decode cL_ahead pc = .ok (.ireturn, 1) → cr_P Γ E 21 Φ 4 104 S pc lv [.int (cr_b b)] (some (b, S))) (k33 : Int32 → Int32 → Int32 → Int32 → cr_S → Option (Bool × cr_S)) (hk33 : ∀ (x1 : Int32) (x13 : Int32) (x14 : Int32) (x15 : Int32) (S : cr_S), cr_P Γ E 21 Φ 4 104 S 33 ([(0, .ref (E.2.1 8 0)), (1, .int x1), (2, .ref (E.2.1 9 0)), (3, .ref (E.2.1 9 1)), (4, .ref (E.2.1 9 2)), (5, .ref (E.2.1 11 0)), (6, .ref (E.2.1 11 1)), (7, .ref (E.2.1 11 2)), (8, .ref (E.2.1 9 3)), (9, .ref (E.2.1 10 0)), (10, .ref (E.2.1 10 1)), (11, .ref (E.2.1 10 2)), (12, .ref (E.2.1 10 3)), (13, .int x13), (14, .int x14), (15, .int x15)]) [] (k33 x1 x13 x14 x15 S)) (x1 : Int32) (x13 : Int32) (x14 : Int32) (x15 : Int32) (x16 : Int32) (S : cr_S) : cr_P Γ E 21 Φ 4 104 S 262 ([(0, .ref (E.2.1 8 0)), (1, .int x1), (2, .ref (E.2.1 9 0)), (3, .ref (E.2.1 9 1)), (4, .ref (E.2.1 9 2)), (5, .ref (E.2.1 11 0)), (6, .ref (E.2.1 11 1)), (7, .ref (E.2.1 11 2)), (8, .ref (E.2.1 9 3)), (9, .ref (E.2.1 10 0)), (10, .ref (E.2.1 10 1)), (11, .ref (E.2.1 10 2)), (12, .ref (E.2.1 10 3)), (13, .int x13), (14, .int x14), (15, .int x15), (16, .int x16)]) ([]) (s_L_ahead_262 k33 x1 x13 x14 x15 x16 S) := by
  have hEK := X.2.2.2.2.2.2.1
  unfold s_L_ahead_262
  refine cr_iload_n X 1 rfl dL_ahead_262 ?_
  refine cr_bipush X (6 : Int32) (by decide) dL_ahead_263 ?_
  refine cr_ishr X dL_ahead_265 ?_
  refine cr_bipush X (9 : Int32) (by decide) dL_ahead_266 ?_
  refine cr_callS X (As := [.int ((x1 >>> ((6 : Int32) &&& 31))), .int ((9 : Int32))]) (rest := []) (c_L_at Γ.2.1 E hEK S ((x1 >>> ((6 : Int32) &&& 31))) ((9 : Int32))) 2 gL_ahead_L_at rfl rfl rfl (by decide +kernel) ⟨Nat.le_of_ble_eq_true rfl, Nat.le_of_ble_eq_true rfl⟩ (by decide) rfl rfl (Nat.le_of_ble_eq_true rfl) dL_ahead_268 (fun r268_20 => ?_)
  show cr_P Γ E 21 _ 4 104 S 271 ([(0, .ref (E.2.1 8 0)), (1, .int x1), (2, .ref (E.2.1 9 0)), (3, .ref (E.2.1 9 1)), (4, .ref (E.2.1 9 2)), (5, .ref (E.2.1 11 0)), (6, .ref (E.2.1 11 1)), (7, .ref (E.2.1 11 2)), (8, .ref (E.2.1 9 3)), (9, .ref (E.2.1 10 0)), (10, .ref (E.2.1 10 1)), (11, .ref (E.2.1 10 2)), (12, .ref (E.2.1 10 3)), (13, .int x13), (14, .int x14), (15, .int x15), (16, .int x16)]) ([.int r268_20]) _
  refine cr_istore X ([(19, .int r268_20), (0, .ref (E.2.1 8 0)), (1, .int x1), (2, .ref (E.2.1 9 0)), (3, .ref (E.2.1 9 1)), (4, .ref (E.2.1 9 2)), (5, .ref (E.2.1 11 0)), (6, .ref (E.2.1 11 1)), (7, .ref (E.2.1 11 2)), (8, .ref (E.2.1 9 3)), (9, .ref (E.2.1 10 0)), (10, .ref (E.2.1 10 1)), (11, .ref (E.2.1 10 2)), (12, .ref (E.2.1 10 3)), (13, .int x13), (14, .int x14), (15, .int x15), (16, .int x16)]) rfl (by decide) dL_ahead_271 ?_
  refine cr_iload X 0 rfl dL_ahead_273 ?_
  refine cr_iconst X (5 : Int32) (by decide) dL_ahead_275 ?_
  refine cr_icmp_ge X 290 dL_ahead_276 rfl ?_ ?_
  · refine cr_iload X 0 rfl dL_ahead_290 ?_
    refine cr_bipush X (7 : Int32) (by decide) dL_ahead_292 ?_
    refine cr_icmp_ge X 309 dL_ahead_294 rfl ?_ ?_
    · refine cr_iload X 0 rfl dL_ahead_309 ?_
      refine cr_bipush X (7 : Int32) (by decide) dL_ahead_311 ?_
      refine cr_icmp_ne X 327 dL_ahead_313 rfl ?_ ?_
      · refine cr_aload X 12 rfl dL_ahead_327 ?_
        refine cr_iconst X (0 : Int32) (by decide) dL_ahead_329 ?_
        refine cr_ialdk X 0 (by decide) (by decide) ((cr_n2 E (cr_g10 hfl)).at rfl rfl) dL_ahead_330 ?_
        refine cr_sub (lv' := [(0, .ref (E.2.1 8 0)), (1, .int x1), (2, .ref (E.2.1 9 0)), (3, .ref (E.2.1 9 1)), (4, .ref (E.2.1 9 2)), (5, .ref (E.2.1 11 0)), (6, .ref (E.2.1 11 1)), (7, .ref (E.2.1 11 2)), (8, .ref (E.2.1 9 3)), (9, .ref (E.2.1 10 0)), (10, .ref (E.2.1 10 1)), (11, .ref (E.2.1 10 2)), (12, .ref (E.2.1 10 3)), (13, .int x13), (14, .int x14), (15, .int x15), (16, .int x16), (19, .int r268_20)]) [1, 2, 3, 4, 5, 6, 7, 8, 9, 10, 11, 12, 13, 14, 15, 16, 17, 0] rfl ?_
        exact b_L_ahead_331 X hfl hend k33 hk33 x1 x13 x14 x15 x16 r268_20 (((S.1 10 2) 0)) S
      · refine cr_iconst X (3 : Int32) (by decide) dL_ahead_316 ?_
        refine cr_aload X 10 rfl dL_ahead_317 ?_
        refine cr_aload X 13 rfl dL_ahead_319 ?_
        refine cr_callS X (As := [.int ((3 : Int32)), .ref (E.2.1 10 0), .ref (E.2.1 10 3)]) (rest := []) (c_L_sum_S Γ.2.1 E hEK S (cr_g10 hfl) ((3 : Int32))) 3 gL_ahead_L_sum rfl rfl rfl (by decide +kernel) ⟨Nat.le_of_ble_eq_true rfl, Nat.le_of_ble_eq_true rfl⟩ (by decide) rfl rfl (Nat.le_of_ble_eq_true rfl) dL_ahead_321 (fun r321_21 => ?_)
        show cr_P Γ E 21 _ 4 104 S 324 ([(19, .int r268_20), (0, .ref (E.2.1 8 0)), (1, .int x1), (2, .ref (E.2.1 9 0)), (3, .ref (E.2.1 9 1)), (4, .ref (E.2.1 9 2)), (5, .ref (E.2.1 11 0)), (6, .ref (E.2.1 11 1)), (7, .ref (E.2.1 11 2)), (8, .ref (E.2.1 9 3)), (9, .ref (E.2.1 10 0)), (10, .ref (E.2.1 10 1)), (11, .ref (E.2.1 10 2)), (12, .ref (E.2.1 10 3)), (13, .int x13), (14, .int x14), (15, .int x15), (16, .int x16)]) ([.int r321_21]) _
        refine cr_goto X 331 dL_ahead_324 rfl ?_
        refine cr_sub (lv' := [(0, .ref (E.2.1 8 0)), (1, .int x1), (2, .ref (E.2.1 9 0)), (3, .ref (E.2.1 9 1)), (4, .ref (E.2.1 9 2)), (5, .ref (E.2.1 11 0)), (6, .ref (E.2.1 11 1)), (7, .ref (E.2.1 11 2)), (8, .ref (E.2.1 9 3)), (9, .ref (E.2.1 10 0)), (10, .ref (E.2.1 10 1)), (11, .ref (E.2.1 10 2)), (12, .ref (E.2.1 10 3)), (13, .int x13), (14, .int x14), (15, .int x15), (16, .int x16), (19, .int r268_20)]) [1, 2, 3, 4, 5, 6, 7, 8, 9, 10, 11, 12, 13, 14, 15, 16, 17, 0] rfl ?_
        exact b_L_ahead_331 X hfl hend k33 hk33 x1 x13 x14 x15 x16 r268_20 r321_21 S
    · refine cr_iload X 0 rfl dL_ahead_297 ?_
      refine cr_aload X 10 rfl dL_ahead_299 ?_
      refine cr_aload X 13 rfl dL_ahead_301 ?_
      refine cr_callS X (As := [.int r268_20, .ref (E.2.1 10 0), .ref (E.2.1 10 3)]) (rest := []) (c_L_sum_S Γ.2.1 E hEK S (cr_g10 hfl) r268_20) 3 gL_ahead_L_sum rfl rfl rfl (by decide +kernel) ⟨Nat.le_of_ble_eq_true rfl, Nat.le_of_ble_eq_true rfl⟩ (by decide) rfl rfl (Nat.le_of_ble_eq_true rfl) dL_ahead_303 (fun r303_22 => ?_)
      show cr_P Γ E 21 _ 4 104 S 306 ([(19, .int r268_20), (0, .ref (E.2.1 8 0)), (1, .int x1), (2, .ref (E.2.1 9 0)), (3, .ref (E.2.1 9 1)), (4, .ref (E.2.1 9 2)), (5, .ref (E.2.1 11 0)), (6, .ref (E.2.1 11 1)), (7, .ref (E.2.1 11 2)), (8, .ref (E.2.1 9 3)), (9, .ref (E.2.1 10 0)), (10, .ref (E.2.1 10 1)), (11, .ref (E.2.1 10 2)), (12, .ref (E.2.1 10 3)), (13, .int x13), (14, .int x14), (15, .int x15), (16, .int x16)]) ([.int r303_22]) _
      refine cr_goto X 331 dL_ahead_306 rfl ?_
      refine cr_sub (lv' := [(0, .ref (E.2.1 8 0)), (1, .int x1), (2, .ref (E.2.1 9 0)), (3, .ref (E.2.1 9 1)), (4, .ref (E.2.1 9 2)), (5, .ref (E.2.1 11 0)), (6, .ref (E.2.1 11 1)), (7, .ref (E.2.1 11 2)), (8, .ref (E.2.1 9 3)), (9, .ref (E.2.1 10 0)), (10, .ref (E.2.1 10 1)), (11, .ref (E.2.1 10 2)), (12, .ref (E.2.1 10 3)), (13, .int x13), (14, .int x14), (15, .int x15), (16, .int x16), (19, .int r268_20)]) [1, 2, 3, 4, 5, 6, 7, 8, 9, 10, 11, 12, 13, 14, 15, 16, 17, 0] rfl ?_
      exact b_L_ahead_331 X hfl hend k33 hk33 x1 x13 x14 x15 x16 r268_20 r303_22 S
  · refine cr_aload X 13 rfl dL_ahead_279 ?_
    refine cr_bipush X (9 : Int32) (by decide) dL_ahead_281 ?_
    refine cr_iload X 0 rfl dL_ahead_283 ?_
    refine cr_iadd X dL_ahead_285 ?_
    refine cr_iald X ((cr_n3 E (cr_g10 hfl)).at rfl rfl) dL_ahead_286 ?_
    refine cr_goto X 331 dL_ahead_287 rfl ?_
    refine cr_sub (lv' := [(0, .ref (E.2.1 8 0)), (1, .int x1), (2, .ref (E.2.1 9 0)), (3, .ref (E.2.1 9 1)), (4, .ref (E.2.1 9 2)), (5, .ref (E.2.1 11 0)), (6, .ref (E.2.1 11 1)), (7, .ref (E.2.1 11 2)), (8, .ref (E.2.1 9 3)), (9, .ref (E.2.1 10 0)), (10, .ref (E.2.1 10 1)), (11, .ref (E.2.1 10 2)), (12, .ref (E.2.1 10 3)), (13, .int x13), (14, .int x14), (15, .int x15), (16, .int x16), (19, .int r268_20)]) [1, 2, 3, 4, 5, 6, 7, 8, 9, 10, 11, 12, 13, 14, 15, 16, 17, 0] rfl ?_
    exact b_L_ahead_331 X hfl hend k33 hk33 x1 x13 x14 x15 x16 r268_20 (((S.1 10 3) (((9 : Int32) + r268_20)).toNatClampNeg)) S
set_option maxHeartbeats 4000000 in
set_option maxRecDepth 100000 in
theorem b_L_ahead_231 {Γ : cr_C} {E : cr_E} (X : cr_X Γ E cL_ahead 21 RL wsL_ahead rm_L_ahead (some .boolean)) (hfl : cr_fl E) {Φ : Bool × cr_S → (State → Prop) → Prop} (hend : ∀ (b : Bool) (S : cr_S) (pc : Nat) (lv : List (Nat × Value)), decode cL_ahead pc = .ok (.ireturn, 1) → cr_P Γ E 21 Φ 4 104 S pc lv [.int (cr_b b)] (some (b, S))) (k33 : Int32 → Int32 → Int32 → Int32 → cr_S → Option (Bool × cr_S)) (hk33 : ∀ (x1 : Int32) (x13 : Int32) (x14 : Int32) (x15 : Int32) (S : cr_S), cr_P Γ E 21 Φ 4 104 S 33 ([(0, .ref (E.2.1 8 0)), (1, .int x1), (2, .ref (E.2.1 9 0)), (3, .ref (E.2.1 9 1)), (4, .ref (E.2.1 9 2)), (5, .ref (E.2.1 11 0)), (6, .ref (E.2.1 11 1)), (7, .ref (E.2.1 11 2)), (8, .ref (E.2.1 9 3)), (9, .ref (E.2.1 10 0)), (10, .ref (E.2.1 10 1)), (11, .ref (E.2.1 10 2)), (12, .ref (E.2.1 10 3)), (13, .int x13), (14, .int x14), (15, .int x15)]) [] (k33 x1 x13 x14 x15 S)) (x1 : Int32) (x13 : Int32) (x14 : Int32) (x15 : Int32) (x16 : Int32) (x17 : Int32) (S : cr_S) : cr_P Γ E 21 Φ 4 104 S 231 ([(0, .ref (E.2.1 8 0)), (1, .int x1), (2, .ref (E.2.1 9 0)), (3, .ref (E.2.1 9 1)), (4, .ref (E.2.1 9 2)), (5, .ref (E.2.1 11 0)), (6, .ref (E.2.1 11 1)), (7, .ref (E.2.1 11 2)), (8, .ref (E.2.1 9 3)), (9, .ref (E.2.1 10 0)), (10, .ref (E.2.1 10 1)), (11, .ref (E.2.1 10 2)), (12, .ref (E.2.1 10 3)), (13, .int x13), (14, .int x14), (15, .int x15), (16, .int x16), (17, .int x17)]) ([]) (s_L_ahead_231 k33 x1 x13 x14 x15 x16 x17 S) := by
  have hEK := X.2.2.2.2.2.2.1
  unfold s_L_ahead_231
  refine cr_iload X 15 rfl dL_ahead_231 ?_
  refine cr_iconst X (1 : Int32) (by decide) dL_ahead_233 ?_
  refine cr_icmp_le X 262 dL_ahead_234 rfl ?_ ?_
  · refine cr_sub (lv' := [(0, .ref (E.2.1 8 0)), (1, .int x1), (2, .ref (E.2.1 9 0)), (3, .ref (E.2.1 9 1)), (4, .ref (E.2.1 9 2)), (5, .ref (E.2.1 11 0)), (6, .ref (E.2.1 11 1)), (7, .ref (E.2.1 11 2)), (8, .ref (E.2.1 9 3)), (9, .ref (E.2.1 10 0)), (10, .ref (E.2.1 10 1)), (11, .ref (E.2.1 10 2)), (12, .ref (E.2.1 10 3)), (13, .int x13), (14, .int x14), (15, .int x15), (16, .int x16)]) [0, 1, 2, 3, 4, 5, 6, 7, 8, 9, 10, 11, 12, 13, 14, 15, 16] rfl ?_
    exact b_L_ahead_262 X hfl hend k33 hk33 x1 x13 x14 x15 x16 S
  · refine cr_iload X 13 rfl dL_ahead_237 ?_
    refine cr_if_lt X 249 dL_ahead_239 rfl ?_ ?_
    · refine cr_aload X 4 rfl dL_ahead_249 ?_
      refine cr_iload X 15 rfl dL_ahead_251 ?_
      refine cr_iconst X (1 : Int32) (by decide) dL_ahead_253 ?_
      refine cr_isub X dL_ahead_254 ?_
      refine cr_iald X ((cr_n2 E (cr_g9 E)).at rfl rfl) dL_ahead_255 ?_
      refine cr_istoreb X (fun v256_18 => [(13, .int v256_18), (0, .ref (E.2.1 8 0)), (1, .int x1), (2, .ref (E.2.1 9 0)), (3, .ref (E.2.1 9 1)), (4, .ref (E.2.1 9 2)), (5, .ref (E.2.1 11 0)), (6, .ref (E.2.1 11 1)), (7, .ref (E.2.1 11 2)), (8, .ref (E.2.1 9 3)), (9, .ref (E.2.1 10 0)), (10, .ref (E.2.1 10 1)), (11, .ref (E.2.1 10 2)), (12, .ref (E.2.1 10 3)), (14, .int x14), (15, .int x15), (16, .int x16), (17, .int x17)]) (fun _ => rfl) (by decide) dL_ahead_256 (fun v256_18 => ?_)
      refine cr_iload X 17 rfl dL_ahead_258 ?_
      refine cr_istore X ([(14, .int x17), (13, .int v256_18), (0, .ref (E.2.1 8 0)), (1, .int x1), (2, .ref (E.2.1 9 0)), (3, .ref (E.2.1 9 1)), (4, .ref (E.2.1 9 2)), (5, .ref (E.2.1 11 0)), (6, .ref (E.2.1 11 1)), (7, .ref (E.2.1 11 2)), (8, .ref (E.2.1 9 3)), (9, .ref (E.2.1 10 0)), (10, .ref (E.2.1 10 1)), (11, .ref (E.2.1 10 2)), (12, .ref (E.2.1 10 3)), (15, .int x15), (16, .int x16), (17, .int x17)]) rfl (by decide) dL_ahead_260 ?_
      refine cr_sub (lv' := [(0, .ref (E.2.1 8 0)), (1, .int x1), (2, .ref (E.2.1 9 0)), (3, .ref (E.2.1 9 1)), (4, .ref (E.2.1 9 2)), (5, .ref (E.2.1 11 0)), (6, .ref (E.2.1 11 1)), (7, .ref (E.2.1 11 2)), (8, .ref (E.2.1 9 3)), (9, .ref (E.2.1 10 0)), (10, .ref (E.2.1 10 1)), (11, .ref (E.2.1 10 2)), (12, .ref (E.2.1 10 3)), (13, .int v256_18), (14, .int x17), (15, .int x15), (16, .int x16)]) [2, 3, 4, 5, 6, 7, 8, 9, 10, 11, 12, 13, 14, 1, 0, 15, 16] rfl ?_
      exact b_L_ahead_262 X hfl hend k33 hk33 x1 v256_18 x17 x15 x16 S
    · refine cr_iload X 17 rfl dL_ahead_242 ?_
      refine cr_iload X 14 rfl dL_ahead_244 ?_
      refine cr_icmp_ge X 262 dL_ahead_246 rfl ?_ ?_
      · refine cr_sub (lv' := [(0, .ref (E.2.1 8 0)), (1, .int x1), (2, .ref (E.2.1 9 0)), (3, .ref (E.2.1 9 1)), (4, .ref (E.2.1 9 2)), (5, .ref (E.2.1 11 0)), (6, .ref (E.2.1 11 1)), (7, .ref (E.2.1 11 2)), (8, .ref (E.2.1 9 3)), (9, .ref (E.2.1 10 0)), (10, .ref (E.2.1 10 1)), (11, .ref (E.2.1 10 2)), (12, .ref (E.2.1 10 3)), (13, .int x13), (14, .int x14), (15, .int x15), (16, .int x16)]) [0, 1, 2, 3, 4, 5, 6, 7, 8, 9, 10, 11, 12, 13, 14, 15, 16] rfl ?_
        exact b_L_ahead_262 X hfl hend k33 hk33 x1 x13 x14 x15 x16 S
      · refine cr_aload X 4 rfl dL_ahead_249 ?_
        refine cr_iload X 15 rfl dL_ahead_251 ?_
        refine cr_iconst X (1 : Int32) (by decide) dL_ahead_253 ?_
        refine cr_isub X dL_ahead_254 ?_
        refine cr_iald X ((cr_n2 E (cr_g9 E)).at rfl rfl) dL_ahead_255 ?_
        refine cr_istoreb X (fun v256_19 => [(13, .int v256_19), (0, .ref (E.2.1 8 0)), (1, .int x1), (2, .ref (E.2.1 9 0)), (3, .ref (E.2.1 9 1)), (4, .ref (E.2.1 9 2)), (5, .ref (E.2.1 11 0)), (6, .ref (E.2.1 11 1)), (7, .ref (E.2.1 11 2)), (8, .ref (E.2.1 9 3)), (9, .ref (E.2.1 10 0)), (10, .ref (E.2.1 10 1)), (11, .ref (E.2.1 10 2)), (12, .ref (E.2.1 10 3)), (14, .int x14), (15, .int x15), (16, .int x16), (17, .int x17)]) (fun _ => rfl) (by decide) dL_ahead_256 (fun v256_19 => ?_)
        refine cr_iload X 17 rfl dL_ahead_258 ?_
        refine cr_istore X ([(14, .int x17), (13, .int v256_19), (0, .ref (E.2.1 8 0)), (1, .int x1), (2, .ref (E.2.1 9 0)), (3, .ref (E.2.1 9 1)), (4, .ref (E.2.1 9 2)), (5, .ref (E.2.1 11 0)), (6, .ref (E.2.1 11 1)), (7, .ref (E.2.1 11 2)), (8, .ref (E.2.1 9 3)), (9, .ref (E.2.1 10 0)), (10, .ref (E.2.1 10 1)), (11, .ref (E.2.1 10 2)), (12, .ref (E.2.1 10 3)), (15, .int x15), (16, .int x16), (17, .int x17)]) rfl (by decide) dL_ahead_260 ?_
        refine cr_sub (lv' := [(0, .ref (E.2.1 8 0)), (1, .int x1), (2, .ref (E.2.1 9 0)), (3, .ref (E.2.1 9 1)), (4, .ref (E.2.1 9 2)), (5, .ref (E.2.1 11 0)), (6, .ref (E.2.1 11 1)), (7, .ref (E.2.1 11 2)), (8, .ref (E.2.1 9 3)), (9, .ref (E.2.1 10 0)), (10, .ref (E.2.1 10 1)), (11, .ref (E.2.1 10 2)), (12, .ref (E.2.1 10 3)), (13, .int v256_19), (14, .int x17), (15, .int x15), (16, .int x16)]) [2, 3, 4, 5, 6, 7, 8, 9, 10, 11, 12, 13, 14, 1, 0, 15, 16] rfl ?_
        exact b_L_ahead_262 X hfl hend k33 hk33 x1 v256_19 x17 x15 x16 S
set_option maxHeartbeats 4000000 in
set_option maxRecDepth 100000 in
theorem b_L_ahead_203 {Γ : cr_C} {E : cr_E} (X : cr_X Γ E cL_ahead 21 RL wsL_ahead rm_L_ahead (some .boolean)) (hfl : cr_fl E) {Φ : Bool × cr_S → (State → Prop) → Prop} (hend : ∀ (b : Bool) (S : cr_S) (pc : Nat) (lv : List (Nat × Value)), decode cL_ahead pc = .ok (.ireturn, 1) → cr_P Γ E 21 Φ 4 104 S pc lv [.int (cr_b b)] (some (b, S))) (k33 : Int32 → Int32 → Int32 → Int32 → cr_S → Option (Bool × cr_S)) (hk33 : ∀ (x1 : Int32) (x13 : Int32) (x14 : Int32) (x15 : Int32) (S : cr_S), cr_P Γ E 21 Φ 4 104 S 33 ([(0, .ref (E.2.1 8 0)), (1, .int x1), (2, .ref (E.2.1 9 0)), (3, .ref (E.2.1 9 1)), (4, .ref (E.2.1 9 2)), (5, .ref (E.2.1 11 0)), (6, .ref (E.2.1 11 1)), (7, .ref (E.2.1 11 2)), (8, .ref (E.2.1 9 3)), (9, .ref (E.2.1 10 0)), (10, .ref (E.2.1 10 1)), (11, .ref (E.2.1 10 2)), (12, .ref (E.2.1 10 3)), (13, .int x13), (14, .int x14), (15, .int x15)]) [] (k33 x1 x13 x14 x15 S)) (x1 : Int32) (x13 : Int32) (x14 : Int32) (x15 : Int32) (x16 : Int32) (x17 : Int32) (x18 : Int32) (S : cr_S) : cr_P Γ E 21 Φ 4 104 S 203 ([(0, .ref (E.2.1 8 0)), (1, .int x1), (2, .ref (E.2.1 9 0)), (3, .ref (E.2.1 9 1)), (4, .ref (E.2.1 9 2)), (5, .ref (E.2.1 11 0)), (6, .ref (E.2.1 11 1)), (7, .ref (E.2.1 11 2)), (8, .ref (E.2.1 9 3)), (9, .ref (E.2.1 10 0)), (10, .ref (E.2.1 10 1)), (11, .ref (E.2.1 10 2)), (12, .ref (E.2.1 10 3)), (13, .int x13), (14, .int x14), (15, .int x15), (16, .int x16), (17, .int x17), (18, .int x18)]) ([]) (s_L_ahead_203 k33 x1 x13 x14 x15 x16 x17 x18 S) := by
  have hEK := X.2.2.2.2.2.2.1
  unfold s_L_ahead_203
  refine cr_iload X 15 rfl dL_ahead_203 ?_
  refine cr_iconst X (1 : Int32) (by decide) dL_ahead_205 ?_
  refine cr_icmp_ne X 231 dL_ahead_206 rfl ?_ ?_
  · refine cr_sub (lv' := [(0, .ref (E.2.1 8 0)), (1, .int x1), (2, .ref (E.2.1 9 0)), (3, .ref (E.2.1 9 1)), (4, .ref (E.2.1 9 2)), (5, .ref (E.2.1 11 0)), (6, .ref (E.2.1 11 1)), (7, .ref (E.2.1 11 2)), (8, .ref (E.2.1 9 3)), (9, .ref (E.2.1 10 0)), (10, .ref (E.2.1 10 1)), (11, .ref (E.2.1 10 2)), (12, .ref (E.2.1 10 3)), (13, .int x13), (14, .int x14), (15, .int x15), (16, .int x16), (17, .int x17)]) [0, 1, 2, 3, 4, 5, 6, 7, 8, 9, 10, 11, 12, 13, 14, 15, 16, 17] rfl ?_
    exact b_L_ahead_231 X hfl hend k33 hk33 x1 x13 x14 x15 x16 x17 S
  · refine cr_aload_n X 0 rfl dL_ahead_209 ?_
    refine cr_callV X (As := []) (rest := []) (c_X8_doneIn Γ.2.1 E hEK S) ((cr_b0 E).at rfl rfl) rfl 0 gL_ahead_X8_doneIn rfl rfl rfl (by decide +kernel) ⟨Nat.le_of_ble_eq_true rfl, Nat.le_of_ble_eq_true rfl⟩ (by decide) rfl rfl (Nat.le_of_ble_eq_true rfl) dL_ahead_210 (fun r210_17 => ?_)
    show cr_P Γ E 21 _ 4 104 r210_17.2 213 ([(0, .ref (E.2.1 8 0)), (1, .int x1), (2, .ref (E.2.1 9 0)), (3, .ref (E.2.1 9 1)), (4, .ref (E.2.1 9 2)), (5, .ref (E.2.1 11 0)), (6, .ref (E.2.1 11 1)), (7, .ref (E.2.1 11 2)), (8, .ref (E.2.1 9 3)), (9, .ref (E.2.1 10 0)), (10, .ref (E.2.1 10 1)), (11, .ref (E.2.1 10 2)), (12, .ref (E.2.1 10 3)), (13, .int x13), (14, .int x14), (15, .int x15), (16, .int x16), (17, .int x17), (18, .int x18)]) ([.int r210_17.1]) _
    refine cr_aload X 11 rfl dL_ahead_213 ?_
    refine cr_iconst X (0 : Int32) (by decide) dL_ahead_215 ?_
    refine cr_ialdk X 0 (by decide) (by decide) ((cr_n2 E (cr_g10 hfl)).at rfl rfl) dL_ahead_216 ?_
    refine cr_if_le X 224 dL_ahead_217 rfl ?_ ?_
    · refine cr_iload X 18 rfl dL_ahead_224 ?_
      refine cr_icmp_eq X 231 dL_ahead_226 rfl ?_ ?_
      · refine cr_sub (lv' := [(0, .ref (E.2.1 8 0)), (1, .int x1), (2, .ref (E.2.1 9 0)), (3, .ref (E.2.1 9 1)), (4, .ref (E.2.1 9 2)), (5, .ref (E.2.1 11 0)), (6, .ref (E.2.1 11 1)), (7, .ref (E.2.1 11 2)), (8, .ref (E.2.1 9 3)), (9, .ref (E.2.1 10 0)), (10, .ref (E.2.1 10 1)), (11, .ref (E.2.1 10 2)), (12, .ref (E.2.1 10 3)), (13, .int x13), (14, .int x14), (15, .int x15), (16, .int x16), (17, .int x17)]) [0, 1, 2, 3, 4, 5, 6, 7, 8, 9, 10, 11, 12, 13, 14, 15, 16, 17] rfl ?_
        exact b_L_ahead_231 X hfl hend k33 hk33 x1 x13 x14 x15 x16 x17 r210_17.2
      · refine cr_iconst X (0 : Int32) (by decide) dL_ahead_229 ?_
        exact hend false r210_17.2 _ _ dL_ahead_230
    · refine cr_iconst X (-1 : Int32) (by decide) dL_ahead_220 ?_
      refine cr_goto X 226 dL_ahead_221 rfl ?_
      refine cr_icmp_eq X 231 dL_ahead_226 rfl ?_ ?_
      · refine cr_sub (lv' := [(0, .ref (E.2.1 8 0)), (1, .int x1), (2, .ref (E.2.1 9 0)), (3, .ref (E.2.1 9 1)), (4, .ref (E.2.1 9 2)), (5, .ref (E.2.1 11 0)), (6, .ref (E.2.1 11 1)), (7, .ref (E.2.1 11 2)), (8, .ref (E.2.1 9 3)), (9, .ref (E.2.1 10 0)), (10, .ref (E.2.1 10 1)), (11, .ref (E.2.1 10 2)), (12, .ref (E.2.1 10 3)), (13, .int x13), (14, .int x14), (15, .int x15), (16, .int x16), (17, .int x17)]) [0, 1, 2, 3, 4, 5, 6, 7, 8, 9, 10, 11, 12, 13, 14, 15, 16, 17] rfl ?_
        exact b_L_ahead_231 X hfl hend k33 hk33 x1 x13 x14 x15 x16 x17 r210_17.2
      · refine cr_iconst X (0 : Int32) (by decide) dL_ahead_229 ?_
        exact hend false r210_17.2 _ _ dL_ahead_230
set_option maxHeartbeats 4000000 in
set_option maxRecDepth 100000 in
theorem b_L_ahead_175 {Γ : cr_C} {E : cr_E} (X : cr_X Γ E cL_ahead 21 RL wsL_ahead rm_L_ahead (some .boolean)) (hfl : cr_fl E) {Φ : Bool × cr_S → (State → Prop) → Prop} (hend : ∀ (b : Bool) (S : cr_S) (pc : Nat) (lv : List (Nat × Value)), decode cL_ahead pc = .ok (.ireturn, 1) → cr_P Γ E 21 Φ 4 104 S pc lv [.int (cr_b b)] (some (b, S))) (k33 : Int32 → Int32 → Int32 → Int32 → cr_S → Option (Bool × cr_S)) (hk33 : ∀ (x1 : Int32) (x13 : Int32) (x14 : Int32) (x15 : Int32) (S : cr_S), cr_P Γ E 21 Φ 4 104 S 33 ([(0, .ref (E.2.1 8 0)), (1, .int x1), (2, .ref (E.2.1 9 0)), (3, .ref (E.2.1 9 1)), (4, .ref (E.2.1 9 2)), (5, .ref (E.2.1 11 0)), (6, .ref (E.2.1 11 1)), (7, .ref (E.2.1 11 2)), (8, .ref (E.2.1 9 3)), (9, .ref (E.2.1 10 0)), (10, .ref (E.2.1 10 1)), (11, .ref (E.2.1 10 2)), (12, .ref (E.2.1 10 3)), (13, .int x13), (14, .int x14), (15, .int x15)]) [] (k33 x1 x13 x14 x15 S)) (k155 : Int32 → Int32 → Int32 → Int32 → Int32 → Int32 → Int32 → cr_S → Option (Bool × cr_S)) (hk155 : ∀ (x1 : Int32) (x13 : Int32) (x14 : Int32) (x15 : Int32) (x16 : Int32) (x17 : Int32) (x18 : Int32) (S : cr_S), cr_P Γ E 21 Φ 4 104 S 155 ([(0, .ref (E.2.1 8 0)), (1, .int x1), (2, .ref (E.2.1 9 0)), (3, .ref (E.2.1 9 1)), (4, .ref (E.2.1 9 2)), (5, .ref (E.2.1 11 0)), (6, .ref (E.2.1 11 1)), (7, .ref (E.2.1 11 2)), (8, .ref (E.2.1 9 3)), (9, .ref (E.2.1 10 0)), (10, .ref (E.2.1 10 1)), (11, .ref (E.2.1 10 2)), (12, .ref (E.2.1 10 3)), (13, .int x13), (14, .int x14), (15, .int x15), (16, .int x16), (17, .int x17), (18, .int x18)]) [] (k155 x1 x13 x14 x15 x16 x17 x18 S)) (x1 : Int32) (x13 : Int32) (x14 : Int32) (x15 : Int32) (x16 : Int32) (x17 : Int32) (x18 : Int32) (S : cr_S) : cr_P Γ E 21 Φ 4 104 S 175 ([(0, .ref (E.2.1 8 0)), (1, .int x1), (2, .ref (E.2.1 9 0)), (3, .ref (E.2.1 9 1)), (4, .ref (E.2.1 9 2)), (5, .ref (E.2.1 11 0)), (6, .ref (E.2.1 11 1)), (7, .ref (E.2.1 11 2)), (8, .ref (E.2.1 9 3)), (9, .ref (E.2.1 10 0)), (10, .ref (E.2.1 10 1)), (11, .ref (E.2.1 10 2)), (12, .ref (E.2.1 10 3)), (13, .int x13), (14, .int x14), (15, .int x15), (16, .int x16), (17, .int x17), (18, .int x18)]) ([]) (s_L_ahead_175 k33 k155 x1 x13 x14 x15 x16 x17 x18 S) := by
  have hEK := X.2.2.2.2.2.2.1
  unfold s_L_ahead_175
  refine cr_iload X 17 rfl dL_ahead_175 ?_
  refine cr_aload X 9 rfl dL_ahead_177 ?_
  refine cr_aload X 10 rfl dL_ahead_179 ?_
  refine cr_aload X 11 rfl dL_ahead_181 ?_
  refine cr_aload X 5 rfl dL_ahead_183 ?_
  refine cr_aload X 6 rfl dL_ahead_185 ?_
  refine cr_aload X 7 rfl dL_ahead_187 ?_
  refine cr_aload X 12 rfl dL_ahead_189 ?_
  refine cr_callS X (As := [.ref (E.2.1 10 0), .ref (E.2.1 10 1), .ref (E.2.1 10 2), .ref (E.2.1 11 0), .ref (E.2.1 11 1), .ref (E.2.1 11 2), .ref (E.2.1 10 3)]) (rest := [.int x17]) (c_L_hour_S Γ.2.1 E hEK S (cr_g10 hfl)) 7 gL_ahead_L_hour rfl rfl rfl (by decide +kernel) ⟨Nat.le_of_ble_eq_true rfl, Nat.le_of_ble_eq_true rfl⟩ (by decide) rfl rfl (Nat.le_of_ble_eq_true rfl) dL_ahead_191 (fun r191_26 => ?_)
  show cr_P Γ E 21 _ 4 104 (cr_us S 10 r191_26.2) 194 ([(0, .ref (E.2.1 8 0)), (1, .int x1), (2, .ref (E.2.1 9 0)), (3, .ref (E.2.1 9 1)), (4, .ref (E.2.1 9 2)), (5, .ref (E.2.1 11 0)), (6, .ref (E.2.1 11 1)), (7, .ref (E.2.1 11 2)), (8, .ref (E.2.1 9 3)), (9, .ref (E.2.1 10 0)), (10, .ref (E.2.1 10 1)), (11, .ref (E.2.1 10 2)), (12, .ref (E.2.1 10 3)), (13, .int x13), (14, .int x14), (15, .int x15), (16, .int x16), (17, .int x17), (18, .int x18)]) ([.int r191_26.1, .int x17]) _
  refine cr_bds (fun S191_27 => ?_)
  refine cr_iadd X dL_ahead_194 ?_
  refine cr_istoreb X (fun v195_28 => [(17, .int v195_28), (0, .ref (E.2.1 8 0)), (1, .int x1), (2, .ref (E.2.1 9 0)), (3, .ref (E.2.1 9 1)), (4, .ref (E.2.1 9 2)), (5, .ref (E.2.1 11 0)), (6, .ref (E.2.1 11 1)), (7, .ref (E.2.1 11 2)), (8, .ref (E.2.1 9 3)), (9, .ref (E.2.1 10 0)), (10, .ref (E.2.1 10 1)), (11, .ref (E.2.1 10 2)), (12, .ref (E.2.1 10 3)), (13, .int x13), (14, .int x14), (15, .int x15), (16, .int x16), (18, .int x18)]) (fun _ => rfl) (by decide) dL_ahead_195 (fun v195_28 => ?_)
  refine cr_iinc X (x18 + 1) (fun v197_29 => [(18, .int v197_29), (17, .int v195_28), (0, .ref (E.2.1 8 0)), (1, .int x1), (2, .ref (E.2.1 9 0)), (3, .ref (E.2.1 9 1)), (4, .ref (E.2.1 9 2)), (5, .ref (E.2.1 11 0)), (6, .ref (E.2.1 11 1)), (7, .ref (E.2.1 11 2)), (8, .ref (E.2.1 9 3)), (9, .ref (E.2.1 10 0)), (10, .ref (E.2.1 10 1)), (11, .ref (E.2.1 10 2)), (12, .ref (E.2.1 10 3)), (13, .int x13), (14, .int x14), (15, .int x15), (16, .int x16)]) 18 rfl rfl (fun _ => rfl) (by decide) dL_ahead_197 (fun v197_29 => ?_)
  refine cr_goto X 155 dL_ahead_200 rfl ?_
  refine cr_sub (lv' := [(0, .ref (E.2.1 8 0)), (1, .int x1), (2, .ref (E.2.1 9 0)), (3, .ref (E.2.1 9 1)), (4, .ref (E.2.1 9 2)), (5, .ref (E.2.1 11 0)), (6, .ref (E.2.1 11 1)), (7, .ref (E.2.1 11 2)), (8, .ref (E.2.1 9 3)), (9, .ref (E.2.1 10 0)), (10, .ref (E.2.1 10 1)), (11, .ref (E.2.1 10 2)), (12, .ref (E.2.1 10 3)), (13, .int x13), (14, .int x14), (15, .int x15), (16, .int x16), (17, .int v195_28), (18, .int v197_29)]) [2, 3, 4, 5, 6, 7, 8, 9, 10, 11, 12, 13, 14, 15, 16, 17, 18, 1, 0] rfl ?_
  exact hk155 x1 x13 x14 x15 x16 v195_28 v197_29 S191_27
set_option maxHeartbeats 4000000 in
set_option maxRecDepth 100000 in
theorem b_L_ahead_155 {Γ : cr_C} {E : cr_E} (X : cr_X Γ E cL_ahead 21 RL wsL_ahead rm_L_ahead (some .boolean)) (hfl : cr_fl E) {Φ : Bool × cr_S → (State → Prop) → Prop} (hend : ∀ (b : Bool) (S : cr_S) (pc : Nat) (lv : List (Nat × Value)), decode cL_ahead pc = .ok (.ireturn, 1) → cr_P Γ E 21 Φ 4 104 S pc lv [.int (cr_b b)] (some (b, S))) (k33 : Int32 → Int32 → Int32 → Int32 → cr_S → Option (Bool × cr_S)) (hk33 : ∀ (x1 : Int32) (x13 : Int32) (x14 : Int32) (x15 : Int32) (S : cr_S), cr_P Γ E 21 Φ 4 104 S 33 ([(0, .ref (E.2.1 8 0)), (1, .int x1), (2, .ref (E.2.1 9 0)), (3, .ref (E.2.1 9 1)), (4, .ref (E.2.1 9 2)), (5, .ref (E.2.1 11 0)), (6, .ref (E.2.1 11 1)), (7, .ref (E.2.1 11 2)), (8, .ref (E.2.1 9 3)), (9, .ref (E.2.1 10 0)), (10, .ref (E.2.1 10 1)), (11, .ref (E.2.1 10 2)), (12, .ref (E.2.1 10 3)), (13, .int x13), (14, .int x14), (15, .int x15)]) [] (k33 x1 x13 x14 x15 S)) : ∀ (n : Nat) (x1 : Int32) (x13 : Int32) (x14 : Int32) (x15 : Int32) (x16 : Int32) (x17 : Int32) (x18 : Int32) (S : cr_S), cr_P Γ E 21 Φ 4 104 S 155 ([(0, .ref (E.2.1 8 0)), (1, .int x1), (2, .ref (E.2.1 9 0)), (3, .ref (E.2.1 9 1)), (4, .ref (E.2.1 9 2)), (5, .ref (E.2.1 11 0)), (6, .ref (E.2.1 11 1)), (7, .ref (E.2.1 11 2)), (8, .ref (E.2.1 9 3)), (9, .ref (E.2.1 10 0)), (10, .ref (E.2.1 10 1)), (11, .ref (E.2.1 10 2)), (12, .ref (E.2.1 10 3)), (13, .int x13), (14, .int x14), (15, .int x15), (16, .int x16), (17, .int x17), (18, .int x18)]) ([]) (s_L_ahead_155 k33 n x1 x13 x14 x15 x16 x17 x18 S) := by
  have hEK := X.2.2.2.2.2.2.1
  intro n
  induction n with
  | zero => intro x1 x13 x14 x15 x16 x17 x18 S; exact cr_none
  | succ n ih =>
    intro x1 x13 x14 x15 x16 x17 x18 S
    rw [s_L_ahead_155]
    refine cr_iload X 18 rfl dL_ahead_155 ?_
    refine cr_iload X 16 rfl dL_ahead_157 ?_
    refine cr_icmp_ge X 203 dL_ahead_159 rfl ?_ ?_
    · refine cr_sub (lv' := [(0, .ref (E.2.1 8 0)), (1, .int x1), (2, .ref (E.2.1 9 0)), (3, .ref (E.2.1 9 1)), (4, .ref (E.2.1 9 2)), (5, .ref (E.2.1 11 0)), (6, .ref (E.2.1 11 1)), (7, .ref (E.2.1 11 2)), (8, .ref (E.2.1 9 3)), (9, .ref (E.2.1 10 0)), (10, .ref (E.2.1 10 1)), (11, .ref (E.2.1 10 2)), (12, .ref (E.2.1 10 3)), (13, .int x13), (14, .int x14), (15, .int x15), (16, .int x16), (17, .int x17), (18, .int x18)]) [0, 1, 2, 3, 4, 5, 6, 7, 8, 9, 10, 11, 12, 13, 14, 15, 16, 17, 18] rfl ?_
      exact b_L_ahead_203 X hfl hend k33 hk33 x1 x13 x14 x15 x16 x17 x18 S
    · refine cr_iload X 15 rfl dL_ahead_162 ?_
      refine cr_iconst X (1 : Int32) (by decide) dL_ahead_164 ?_
      refine cr_icmp_ne X 175 dL_ahead_165 rfl ?_ ?_
      · refine cr_sub (lv' := [(0, .ref (E.2.1 8 0)), (1, .int x1), (2, .ref (E.2.1 9 0)), (3, .ref (E.2.1 9 1)), (4, .ref (E.2.1 9 2)), (5, .ref (E.2.1 11 0)), (6, .ref (E.2.1 11 1)), (7, .ref (E.2.1 11 2)), (8, .ref (E.2.1 9 3)), (9, .ref (E.2.1 10 0)), (10, .ref (E.2.1 10 1)), (11, .ref (E.2.1 10 2)), (12, .ref (E.2.1 10 3)), (13, .int x13), (14, .int x14), (15, .int x15), (16, .int x16), (17, .int x17), (18, .int x18)]) [0, 1, 2, 3, 4, 5, 6, 7, 8, 9, 10, 11, 12, 13, 14, 15, 16, 17, 18] rfl ?_
        exact b_L_ahead_175 X hfl hend k33 hk33 (fun x1a x13a x14a x15a x16a x17a x18a Sa => s_L_ahead_155 k33 n x1a x13a x14a x15a x16a x17a x18a Sa) ih x1 x13 x14 x15 x16 x17 x18 S
      · refine cr_aload X 11 rfl dL_ahead_168 ?_
        refine cr_iconst X (0 : Int32) (by decide) dL_ahead_170 ?_
        refine cr_ialdk X 0 (by decide) (by decide) ((cr_n2 E (cr_g10 hfl)).at rfl rfl) dL_ahead_171 ?_
        refine cr_if_le X 203 dL_ahead_172 rfl ?_ ?_
        · refine cr_sub (lv' := [(0, .ref (E.2.1 8 0)), (1, .int x1), (2, .ref (E.2.1 9 0)), (3, .ref (E.2.1 9 1)), (4, .ref (E.2.1 9 2)), (5, .ref (E.2.1 11 0)), (6, .ref (E.2.1 11 1)), (7, .ref (E.2.1 11 2)), (8, .ref (E.2.1 9 3)), (9, .ref (E.2.1 10 0)), (10, .ref (E.2.1 10 1)), (11, .ref (E.2.1 10 2)), (12, .ref (E.2.1 10 3)), (13, .int x13), (14, .int x14), (15, .int x15), (16, .int x16), (17, .int x17), (18, .int x18)]) [0, 1, 2, 3, 4, 5, 6, 7, 8, 9, 10, 11, 12, 13, 14, 15, 16, 17, 18] rfl ?_
          exact b_L_ahead_203 X hfl hend k33 hk33 x1 x13 x14 x15 x16 x17 x18 S
        · refine cr_sub (lv' := [(0, .ref (E.2.1 8 0)), (1, .int x1), (2, .ref (E.2.1 9 0)), (3, .ref (E.2.1 9 1)), (4, .ref (E.2.1 9 2)), (5, .ref (E.2.1 11 0)), (6, .ref (E.2.1 11 1)), (7, .ref (E.2.1 11 2)), (8, .ref (E.2.1 9 3)), (9, .ref (E.2.1 10 0)), (10, .ref (E.2.1 10 1)), (11, .ref (E.2.1 10 2)), (12, .ref (E.2.1 10 3)), (13, .int x13), (14, .int x14), (15, .int x15), (16, .int x16), (17, .int x17), (18, .int x18)]) [0, 1, 2, 3, 4, 5, 6, 7, 8, 9, 10, 11, 12, 13, 14, 15, 16, 17, 18] rfl ?_
          exact b_L_ahead_175 X hfl hend k33 hk33 (fun x1a x13a x14a x15a x16a x17a x18a Sa => s_L_ahead_155 k33 n x1a x13a x14a x15a x16a x17a x18a Sa) ih x1 x13 x14 x15 x16 x17 x18 S
set_option maxHeartbeats 4000000 in
set_option maxRecDepth 100000 in
theorem b_L_ahead_114 {Γ : cr_C} {E : cr_E} (X : cr_X Γ E cL_ahead 21 RL wsL_ahead rm_L_ahead (some .boolean)) (hfl : cr_fl E) {Φ : Bool × cr_S → (State → Prop) → Prop} (hend : ∀ (b : Bool) (S : cr_S) (pc : Nat) (lv : List (Nat × Value)), decode cL_ahead pc = .ok (.ireturn, 1) → cr_P Γ E 21 Φ 4 104 S pc lv [.int (cr_b b)] (some (b, S))) (k33 : Int32 → Int32 → Int32 → Int32 → cr_S → Option (Bool × cr_S)) (hk33 : ∀ (x1 : Int32) (x13 : Int32) (x14 : Int32) (x15 : Int32) (S : cr_S), cr_P Γ E 21 Φ 4 104 S 33 ([(0, .ref (E.2.1 8 0)), (1, .int x1), (2, .ref (E.2.1 9 0)), (3, .ref (E.2.1 9 1)), (4, .ref (E.2.1 9 2)), (5, .ref (E.2.1 11 0)), (6, .ref (E.2.1 11 1)), (7, .ref (E.2.1 11 2)), (8, .ref (E.2.1 9 3)), (9, .ref (E.2.1 10 0)), (10, .ref (E.2.1 10 1)), (11, .ref (E.2.1 10 2)), (12, .ref (E.2.1 10 3)), (13, .int x13), (14, .int x14), (15, .int x15)]) [] (k33 x1 x13 x14 x15 S)) : ∀ (n : Nat) (x1 : Int32) (x13 : Int32) (x14 : Int32) (x15 : Int32) (x16 : Int32) (x17 : Int32) (S : cr_S), cr_P Γ E 21 Φ 4 104 S 114 ([(0, .ref (E.2.1 8 0)), (1, .int x1), (2, .ref (E.2.1 9 0)), (3, .ref (E.2.1 9 1)), (4, .ref (E.2.1 9 2)), (5, .ref (E.2.1 11 0)), (6, .ref (E.2.1 11 1)), (7, .ref (E.2.1 11 2)), (8, .ref (E.2.1 9 3)), (9, .ref (E.2.1 10 0)), (10, .ref (E.2.1 10 1)), (11, .ref (E.2.1 10 2)), (12, .ref (E.2.1 10 3)), (13, .int x13), (14, .int x14), (15, .int x15), (16, .int x16), (17, .int x17)]) ([]) (s_L_ahead_114 k33 n x1 x13 x14 x15 x16 x17 S) := by
  have hEK := X.2.2.2.2.2.2.1
  intro n
  induction n with
  | zero => intro x1 x13 x14 x15 x16 x17 S; exact cr_none
  | succ n ih =>
    intro x1 x13 x14 x15 x16 x17 S
    rw [s_L_ahead_114]
    refine cr_iload X 17 rfl dL_ahead_114 ?_
    refine cr_iconst X (1 : Int32) (by decide) dL_ahead_116 ?_
    refine cr_icmp_le X 138 dL_ahead_117 rfl ?_ ?_
    · refine cr_aload X 11 rfl dL_ahead_138 ?_
      refine cr_iconst X (1 : Int32) (by decide) dL_ahead_140 ?_
      refine cr_aload X 4 rfl dL_ahead_141 ?_
      refine cr_iload X 15 rfl dL_ahead_143 ?_
      refine cr_iconst X (1 : Int32) (by decide) dL_ahead_145 ?_
      refine cr_isub X dL_ahead_146 ?_
      refine cr_iald X ((cr_n2 E (cr_g9 E)).at rfl rfl) dL_ahead_147 ?_
      refine cr_iastSk X 1 (cr_n2 E (cr_g10 hfl)) (fun _ _ => rfl) (by decide) (by decide) dL_ahead_148 (fun S148_30 => ?_)
      refine cr_iconst X (0 : Int32) (by decide) dL_ahead_149 ?_
      refine cr_istore X ([(17, .int ((0 : Int32))), (0, .ref (E.2.1 8 0)), (1, .int x1), (2, .ref (E.2.1 9 0)), (3, .ref (E.2.1 9 1)), (4, .ref (E.2.1 9 2)), (5, .ref (E.2.1 11 0)), (6, .ref (E.2.1 11 1)), (7, .ref (E.2.1 11 2)), (8, .ref (E.2.1 9 3)), (9, .ref (E.2.1 10 0)), (10, .ref (E.2.1 10 1)), (11, .ref (E.2.1 10 2)), (12, .ref (E.2.1 10 3)), (13, .int x13), (14, .int x14), (15, .int x15), (16, .int x16)]) rfl (by decide) dL_ahead_150 ?_
      refine cr_iconst X (0 : Int32) (by decide) dL_ahead_152 ?_
      refine cr_istore X ([(18, .int ((0 : Int32))), (17, .int ((0 : Int32))), (0, .ref (E.2.1 8 0)), (1, .int x1), (2, .ref (E.2.1 9 0)), (3, .ref (E.2.1 9 1)), (4, .ref (E.2.1 9 2)), (5, .ref (E.2.1 11 0)), (6, .ref (E.2.1 11 1)), (7, .ref (E.2.1 11 2)), (8, .ref (E.2.1 9 3)), (9, .ref (E.2.1 10 0)), (10, .ref (E.2.1 10 1)), (11, .ref (E.2.1 10 2)), (12, .ref (E.2.1 10 3)), (13, .int x13), (14, .int x14), (15, .int x15), (16, .int x16)]) rfl (by decide) dL_ahead_153 ?_
      refine cr_sub (lv' := [(0, .ref (E.2.1 8 0)), (1, .int x1), (2, .ref (E.2.1 9 0)), (3, .ref (E.2.1 9 1)), (4, .ref (E.2.1 9 2)), (5, .ref (E.2.1 11 0)), (6, .ref (E.2.1 11 1)), (7, .ref (E.2.1 11 2)), (8, .ref (E.2.1 9 3)), (9, .ref (E.2.1 10 0)), (10, .ref (E.2.1 10 1)), (11, .ref (E.2.1 10 2)), (12, .ref (E.2.1 10 3)), (13, .int x13), (14, .int x14), (15, .int x15), (16, .int x16), (17, .int ((0 : Int32))), (18, .int ((0 : Int32)))]) [2, 3, 4, 5, 6, 7, 8, 9, 10, 11, 12, 13, 14, 15, 16, 17, 18, 1, 0] rfl ?_
      exact b_L_ahead_155 X hfl hend k33 hk33 1200 x1 x13 x14 x15 x16 ((0 : Int32)) ((0 : Int32)) S148_30
    · refine cr_aload X 11 rfl dL_ahead_120 ?_
      refine cr_iload X 17 rfl dL_ahead_122 ?_
      refine cr_aload X 11 rfl dL_ahead_124 ?_
      refine cr_iload X 17 rfl dL_ahead_126 ?_
      refine cr_iconst X (1 : Int32) (by decide) dL_ahead_128 ?_
      refine cr_isub X dL_ahead_129 ?_
      refine cr_iald X ((cr_n2 E (cr_g10 hfl)).at rfl rfl) dL_ahead_130 ?_
      refine cr_iastS X (cr_n2 E (cr_g10 hfl)) (fun _ _ => rfl) dL_ahead_131 (fun S131_31 => ?_)
      refine cr_iinc X (x17 + (-1)) (fun v132_32 => [(17, .int v132_32), (0, .ref (E.2.1 8 0)), (1, .int x1), (2, .ref (E.2.1 9 0)), (3, .ref (E.2.1 9 1)), (4, .ref (E.2.1 9 2)), (5, .ref (E.2.1 11 0)), (6, .ref (E.2.1 11 1)), (7, .ref (E.2.1 11 2)), (8, .ref (E.2.1 9 3)), (9, .ref (E.2.1 10 0)), (10, .ref (E.2.1 10 1)), (11, .ref (E.2.1 10 2)), (12, .ref (E.2.1 10 3)), (13, .int x13), (14, .int x14), (15, .int x15), (16, .int x16)]) 17 rfl (congrArg (fun z => x17 + z) (show Int32.ofInt (-1) = (-1 : Int32) by decide)) (fun _ => rfl) (by decide) dL_ahead_132 (fun v132_32 => ?_)
      refine cr_goto X 114 dL_ahead_135 rfl ?_
      refine cr_sub (lv' := [(0, .ref (E.2.1 8 0)), (1, .int x1), (2, .ref (E.2.1 9 0)), (3, .ref (E.2.1 9 1)), (4, .ref (E.2.1 9 2)), (5, .ref (E.2.1 11 0)), (6, .ref (E.2.1 11 1)), (7, .ref (E.2.1 11 2)), (8, .ref (E.2.1 9 3)), (9, .ref (E.2.1 10 0)), (10, .ref (E.2.1 10 1)), (11, .ref (E.2.1 10 2)), (12, .ref (E.2.1 10 3)), (13, .int x13), (14, .int x14), (15, .int x15), (16, .int x16), (17, .int v132_32)]) [1, 2, 3, 4, 5, 6, 7, 8, 9, 10, 11, 12, 13, 14, 15, 16, 17, 0] rfl ?_
      exact ih x1 x13 x14 x15 x16 v132_32 S131_31
set_option maxHeartbeats 4000000 in
set_option maxRecDepth 100000 in
theorem b_L_ahead_100 {Γ : cr_C} {E : cr_E} (X : cr_X Γ E cL_ahead 21 RL wsL_ahead rm_L_ahead (some .boolean)) (hfl : cr_fl E) {Φ : Bool × cr_S → (State → Prop) → Prop} (hend : ∀ (b : Bool) (S : cr_S) (pc : Nat) (lv : List (Nat × Value)), decode cL_ahead pc = .ok (.ireturn, 1) → cr_P Γ E 21 Φ 4 104 S pc lv [.int (cr_b b)] (some (b, S))) (k33 : Int32 → Int32 → Int32 → Int32 → cr_S → Option (Bool × cr_S)) (hk33 : ∀ (x1 : Int32) (x13 : Int32) (x14 : Int32) (x15 : Int32) (S : cr_S), cr_P Γ E 21 Φ 4 104 S 33 ([(0, .ref (E.2.1 8 0)), (1, .int x1), (2, .ref (E.2.1 9 0)), (3, .ref (E.2.1 9 1)), (4, .ref (E.2.1 9 2)), (5, .ref (E.2.1 11 0)), (6, .ref (E.2.1 11 1)), (7, .ref (E.2.1 11 2)), (8, .ref (E.2.1 9 3)), (9, .ref (E.2.1 10 0)), (10, .ref (E.2.1 10 1)), (11, .ref (E.2.1 10 2)), (12, .ref (E.2.1 10 3)), (13, .int x13), (14, .int x14), (15, .int x15)]) [] (k33 x1 x13 x14 x15 S)) (x1 : Int32) (x13 : Int32) (x14 : Int32) (x15 : Int32) (y0 : Int32) (S : cr_S) : cr_P Γ E 21 Φ 4 104 S 100 ([(0, .ref (E.2.1 8 0)), (1, .int x1), (2, .ref (E.2.1 9 0)), (3, .ref (E.2.1 9 1)), (4, .ref (E.2.1 9 2)), (5, .ref (E.2.1 11 0)), (6, .ref (E.2.1 11 1)), (7, .ref (E.2.1 11 2)), (8, .ref (E.2.1 9 3)), (9, .ref (E.2.1 10 0)), (10, .ref (E.2.1 10 1)), (11, .ref (E.2.1 10 2)), (12, .ref (E.2.1 10 3)), (13, .int x13), (14, .int x14), (15, .int x15)]) ([.int y0]) (s_L_ahead_100 k33 x1 x13 x14 x15 y0 S) := by
  have hEK := X.2.2.2.2.2.2.1
  unfold s_L_ahead_100
  refine cr_istore X ([(16, .int y0), (0, .ref (E.2.1 8 0)), (1, .int x1), (2, .ref (E.2.1 9 0)), (3, .ref (E.2.1 9 1)), (4, .ref (E.2.1 9 2)), (5, .ref (E.2.1 11 0)), (6, .ref (E.2.1 11 1)), (7, .ref (E.2.1 11 2)), (8, .ref (E.2.1 9 3)), (9, .ref (E.2.1 10 0)), (10, .ref (E.2.1 10 1)), (11, .ref (E.2.1 10 2)), (12, .ref (E.2.1 10 3)), (13, .int x13), (14, .int x14), (15, .int x15)]) rfl (by decide) dL_ahead_100 ?_
  refine cr_iload X 16 rfl dL_ahead_102 ?_
  refine cr_iconst X (1 : Int32) (by decide) dL_ahead_104 ?_
  refine cr_icmp_le X 149 dL_ahead_105 rfl ?_ ?_
  · refine cr_iconst X (0 : Int32) (by decide) dL_ahead_149 ?_
    refine cr_istore X ([(17, .int ((0 : Int32))), (16, .int y0), (0, .ref (E.2.1 8 0)), (1, .int x1), (2, .ref (E.2.1 9 0)), (3, .ref (E.2.1 9 1)), (4, .ref (E.2.1 9 2)), (5, .ref (E.2.1 11 0)), (6, .ref (E.2.1 11 1)), (7, .ref (E.2.1 11 2)), (8, .ref (E.2.1 9 3)), (9, .ref (E.2.1 10 0)), (10, .ref (E.2.1 10 1)), (11, .ref (E.2.1 10 2)), (12, .ref (E.2.1 10 3)), (13, .int x13), (14, .int x14), (15, .int x15)]) rfl (by decide) dL_ahead_150 ?_
    refine cr_iconst X (0 : Int32) (by decide) dL_ahead_152 ?_
    refine cr_istore X ([(18, .int ((0 : Int32))), (17, .int ((0 : Int32))), (16, .int y0), (0, .ref (E.2.1 8 0)), (1, .int x1), (2, .ref (E.2.1 9 0)), (3, .ref (E.2.1 9 1)), (4, .ref (E.2.1 9 2)), (5, .ref (E.2.1 11 0)), (6, .ref (E.2.1 11 1)), (7, .ref (E.2.1 11 2)), (8, .ref (E.2.1 9 3)), (9, .ref (E.2.1 10 0)), (10, .ref (E.2.1 10 1)), (11, .ref (E.2.1 10 2)), (12, .ref (E.2.1 10 3)), (13, .int x13), (14, .int x14), (15, .int x15)]) rfl (by decide) dL_ahead_153 ?_
    refine cr_sub (lv' := [(0, .ref (E.2.1 8 0)), (1, .int x1), (2, .ref (E.2.1 9 0)), (3, .ref (E.2.1 9 1)), (4, .ref (E.2.1 9 2)), (5, .ref (E.2.1 11 0)), (6, .ref (E.2.1 11 1)), (7, .ref (E.2.1 11 2)), (8, .ref (E.2.1 9 3)), (9, .ref (E.2.1 10 0)), (10, .ref (E.2.1 10 1)), (11, .ref (E.2.1 10 2)), (12, .ref (E.2.1 10 3)), (13, .int x13), (14, .int x14), (15, .int x15), (16, .int y0), (17, .int ((0 : Int32))), (18, .int ((0 : Int32)))]) [3, 4, 5, 6, 7, 8, 9, 10, 11, 12, 13, 14, 15, 16, 17, 18, 2, 1, 0] rfl ?_
    exact b_L_ahead_155 X hfl hend k33 hk33 1200 x1 x13 x14 x15 y0 ((0 : Int32)) ((0 : Int32)) S
  · refine cr_iload X 16 rfl dL_ahead_108 ?_
    refine cr_iconst X (1 : Int32) (by decide) dL_ahead_110 ?_
    refine cr_isub X dL_ahead_111 ?_
    refine cr_istoreb X (fun v112_16 => [(17, .int v112_16), (16, .int y0), (0, .ref (E.2.1 8 0)), (1, .int x1), (2, .ref (E.2.1 9 0)), (3, .ref (E.2.1 9 1)), (4, .ref (E.2.1 9 2)), (5, .ref (E.2.1 11 0)), (6, .ref (E.2.1 11 1)), (7, .ref (E.2.1 11 2)), (8, .ref (E.2.1 9 3)), (9, .ref (E.2.1 10 0)), (10, .ref (E.2.1 10 1)), (11, .ref (E.2.1 10 2)), (12, .ref (E.2.1 10 3)), (13, .int x13), (14, .int x14), (15, .int x15)]) (fun _ => rfl) (by decide) dL_ahead_112 (fun v112_16 => ?_)
    refine cr_sub (lv' := [(0, .ref (E.2.1 8 0)), (1, .int x1), (2, .ref (E.2.1 9 0)), (3, .ref (E.2.1 9 1)), (4, .ref (E.2.1 9 2)), (5, .ref (E.2.1 11 0)), (6, .ref (E.2.1 11 1)), (7, .ref (E.2.1 11 2)), (8, .ref (E.2.1 9 3)), (9, .ref (E.2.1 10 0)), (10, .ref (E.2.1 10 1)), (11, .ref (E.2.1 10 2)), (12, .ref (E.2.1 10 3)), (13, .int x13), (14, .int x14), (15, .int x15), (16, .int y0), (17, .int v112_16)]) [2, 3, 4, 5, 6, 7, 8, 9, 10, 11, 12, 13, 14, 15, 16, 17, 1, 0] rfl ?_
    exact b_L_ahead_114 X hfl hend k33 hk33 1200 x1 x13 x14 x15 y0 v112_16 S
set_option maxHeartbeats 4000000 in
set_option maxRecDepth 100000 in
theorem b_L_ahead_33 {Γ : cr_C} {E : cr_E} (X : cr_X Γ E cL_ahead 21 RL wsL_ahead rm_L_ahead (some .boolean)) (hfl : cr_fl E) {Φ : Bool × cr_S → (State → Prop) → Prop} (hend : ∀ (b : Bool) (S : cr_S) (pc : Nat) (lv : List (Nat × Value)), decode cL_ahead pc = .ok (.ireturn, 1) → cr_P Γ E 21 Φ 4 104 S pc lv [.int (cr_b b)] (some (b, S))) : ∀ (n : Nat) (x1 : Int32) (x13 : Int32) (x14 : Int32) (x15 : Int32) (S : cr_S), cr_P Γ E 21 Φ 4 104 S 33 ([(0, .ref (E.2.1 8 0)), (1, .int x1), (2, .ref (E.2.1 9 0)), (3, .ref (E.2.1 9 1)), (4, .ref (E.2.1 9 2)), (5, .ref (E.2.1 11 0)), (6, .ref (E.2.1 11 1)), (7, .ref (E.2.1 11 2)), (8, .ref (E.2.1 9 3)), (9, .ref (E.2.1 10 0)), (10, .ref (E.2.1 10 1)), (11, .ref (E.2.1 10 2)), (12, .ref (E.2.1 10 3)), (13, .int x13), (14, .int x14), (15, .int x15)]) ([]) (s_L_ahead_33 n x1 x13 x14 x15 S) := by
  have hEK := X.2.2.2.2.2.2.1
  intro n
  induction n with
  | zero => intro x1 x13 x14 x15 S; exact cr_none
  | succ n ih =>
    intro x1 x13 x14 x15 S
    rw [s_L_ahead_33]
    refine cr_iload X 15 rfl dL_ahead_33 ?_
    refine cr_aload X 4 rfl dL_ahead_35 ?_
    refine cr_iconst X (0 : Int32) (by decide) dL_ahead_37 ?_
    refine cr_ialdk X 0 (by decide) (by decide) ((cr_n2 E (cr_g9 E)).at rfl rfl) dL_ahead_38 ?_
    refine cr_iconst X (2 : Int32) (by decide) dL_ahead_39 ?_
    refine cr_iadd X dL_ahead_40 ?_
    refine cr_icmp_ge X 359 dL_ahead_41 rfl ?_ ?_
    · refine cr_aload X 8 rfl dL_ahead_359 ?_
      refine cr_bipush X (6 : Int32) (by decide) dL_ahead_361 ?_
      refine cr_ialdk X 6 (by decide) (by decide) ((cr_n3 E (cr_g9 E)).at rfl rfl) dL_ahead_363 ?_
      refine cr_if_ne X 371 dL_ahead_364 rfl ?_ ?_
      · refine cr_iload_n X 1 rfl dL_ahead_371 ?_
        refine cr_bipush X (9 : Int32) (by decide) dL_ahead_372 ?_
        refine cr_ishr X dL_ahead_374 ?_
        refine cr_aload X 8 rfl dL_ahead_375 ?_
        refine cr_bipush X (6 : Int32) (by decide) dL_ahead_377 ?_
        refine cr_ialdk X 6 (by decide) (by decide) ((cr_n3 E (cr_g9 E)).at rfl rfl) dL_ahead_379 ?_
        refine cr_callS X (As := [.int ((x1 >>> ((9 : Int32) &&& 31))), .int (((S.1 9 3) 6))]) (rest := []) (c_L_at Γ.2.1 E hEK S ((x1 >>> ((9 : Int32) &&& 31))) (((S.1 9 3) 6))) 2 gL_ahead_L_at rfl rfl rfl (by decide +kernel) ⟨Nat.le_of_ble_eq_true rfl, Nat.le_of_ble_eq_true rfl⟩ (by decide) rfl rfl (Nat.le_of_ble_eq_true rfl) dL_ahead_380 (fun r380_1 => ?_)
        show cr_P Γ E 21 _ 4 104 S 383 ([(0, .ref (E.2.1 8 0)), (1, .int x1), (2, .ref (E.2.1 9 0)), (3, .ref (E.2.1 9 1)), (4, .ref (E.2.1 9 2)), (5, .ref (E.2.1 11 0)), (6, .ref (E.2.1 11 1)), (7, .ref (E.2.1 11 2)), (8, .ref (E.2.1 9 3)), (9, .ref (E.2.1 10 0)), (10, .ref (E.2.1 10 1)), (11, .ref (E.2.1 10 2)), (12, .ref (E.2.1 10 3)), (13, .int x13), (14, .int x14), (15, .int x15)]) ([.int r380_1]) _
        refine cr_sub (lv' := [(0, .ref (E.2.1 8 0)), (1, .int x1), (2, .ref (E.2.1 9 0)), (5, .ref (E.2.1 11 0)), (6, .ref (E.2.1 11 1)), (8, .ref (E.2.1 9 3)), (13, .int x13)]) [0, 1, 2, 5, 6, 8, 13] rfl ?_
        exact b_L_ahead_383 X hfl hend x1 x13 r380_1 S
      · refine cr_iconst X (0 : Int32) (by decide) dL_ahead_367 ?_
        refine cr_goto X 383 dL_ahead_368 rfl ?_
        refine cr_sub (lv' := [(0, .ref (E.2.1 8 0)), (1, .int x1), (2, .ref (E.2.1 9 0)), (5, .ref (E.2.1 11 0)), (6, .ref (E.2.1 11 1)), (8, .ref (E.2.1 9 3)), (13, .int x13)]) [0, 1, 2, 5, 6, 8, 13] rfl ?_
        exact b_L_ahead_383 X hfl hend x1 x13 ((0 : Int32)) S
    · refine cr_aload X 9 rfl dL_ahead_44 ?_
      refine cr_aload_n X 2 rfl dL_ahead_46 ?_
      refine cr_callS X (As := [.ref (E.2.1 10 0), .ref (E.2.1 9 0)]) (rest := []) (c_L_same0_S Γ.2.1 E hEK S hfl) 2 gL_ahead_L_same rfl rfl rfl (by decide +kernel) ⟨Nat.le_of_ble_eq_true rfl, Nat.le_of_ble_eq_true rfl⟩ (by decide) rfl rfl (Nat.le_of_ble_eq_true rfl) dL_ahead_47 (fun r47_2 => ?_)
      show cr_P Γ E 21 _ 4 104 (cr_us S 10 r47_2) 50 ([(0, .ref (E.2.1 8 0)), (1, .int x1), (2, .ref (E.2.1 9 0)), (3, .ref (E.2.1 9 1)), (4, .ref (E.2.1 9 2)), (5, .ref (E.2.1 11 0)), (6, .ref (E.2.1 11 1)), (7, .ref (E.2.1 11 2)), (8, .ref (E.2.1 9 3)), (9, .ref (E.2.1 10 0)), (10, .ref (E.2.1 10 1)), (11, .ref (E.2.1 10 2)), (12, .ref (E.2.1 10 3)), (13, .int x13), (14, .int x14), (15, .int x15)]) ([]) _
      refine cr_bds (fun S47_3 => ?_)
      refine cr_aload X 10 rfl dL_ahead_50 ?_
      refine cr_aload_n X 3 rfl dL_ahead_52 ?_
      refine cr_callS X (As := [.ref (E.2.1 10 1), .ref (E.2.1 9 1)]) (rest := []) (c_L_same1_S Γ.2.1 E hEK S47_3 hfl) 2 gL_ahead_L_same rfl rfl rfl (by decide +kernel) ⟨Nat.le_of_ble_eq_true rfl, Nat.le_of_ble_eq_true rfl⟩ (by decide) rfl rfl (Nat.le_of_ble_eq_true rfl) dL_ahead_53 (fun r53_4 => ?_)
      show cr_P Γ E 21 _ 4 104 (cr_us S47_3 10 r53_4) 56 ([(0, .ref (E.2.1 8 0)), (1, .int x1), (2, .ref (E.2.1 9 0)), (3, .ref (E.2.1 9 1)), (4, .ref (E.2.1 9 2)), (5, .ref (E.2.1 11 0)), (6, .ref (E.2.1 11 1)), (7, .ref (E.2.1 11 2)), (8, .ref (E.2.1 9 3)), (9, .ref (E.2.1 10 0)), (10, .ref (E.2.1 10 1)), (11, .ref (E.2.1 10 2)), (12, .ref (E.2.1 10 3)), (13, .int x13), (14, .int x14), (15, .int x15)]) ([]) _
      refine cr_bds (fun S53_5 => ?_)
      refine cr_aload X 11 rfl dL_ahead_56 ?_
      refine cr_aload X 4 rfl dL_ahead_58 ?_
      refine cr_callS X (As := [.ref (E.2.1 10 2), .ref (E.2.1 9 2)]) (rest := []) (c_L_same2_S Γ.2.1 E hEK S53_5 hfl) 2 gL_ahead_L_same rfl rfl rfl (by decide +kernel) ⟨Nat.le_of_ble_eq_true rfl, Nat.le_of_ble_eq_true rfl⟩ (by decide) rfl rfl (Nat.le_of_ble_eq_true rfl) dL_ahead_60 (fun r60_6 => ?_)
      show cr_P Γ E 21 _ 4 104 (cr_us S53_5 10 r60_6) 63 ([(0, .ref (E.2.1 8 0)), (1, .int x1), (2, .ref (E.2.1 9 0)), (3, .ref (E.2.1 9 1)), (4, .ref (E.2.1 9 2)), (5, .ref (E.2.1 11 0)), (6, .ref (E.2.1 11 1)), (7, .ref (E.2.1 11 2)), (8, .ref (E.2.1 9 3)), (9, .ref (E.2.1 10 0)), (10, .ref (E.2.1 10 1)), (11, .ref (E.2.1 10 2)), (12, .ref (E.2.1 10 3)), (13, .int x13), (14, .int x14), (15, .int x15)]) ([]) _
      refine cr_bds (fun S60_7 => ?_)
      refine cr_aload X 12 rfl dL_ahead_63 ?_
      refine cr_aload X 8 rfl dL_ahead_65 ?_
      refine cr_callS X (As := [.ref (E.2.1 10 3), .ref (E.2.1 9 3)]) (rest := []) (c_L_same3_S Γ.2.1 E hEK S60_7 hfl) 2 gL_ahead_L_same rfl rfl rfl (by decide +kernel) ⟨Nat.le_of_ble_eq_true rfl, Nat.le_of_ble_eq_true rfl⟩ (by decide) rfl rfl (Nat.le_of_ble_eq_true rfl) dL_ahead_67 (fun r67_8 => ?_)
      show cr_P Γ E 21 _ 4 104 (cr_us S60_7 10 r67_8) 70 ([(0, .ref (E.2.1 8 0)), (1, .int x1), (2, .ref (E.2.1 9 0)), (3, .ref (E.2.1 9 1)), (4, .ref (E.2.1 9 2)), (5, .ref (E.2.1 11 0)), (6, .ref (E.2.1 11 1)), (7, .ref (E.2.1 11 2)), (8, .ref (E.2.1 9 3)), (9, .ref (E.2.1 10 0)), (10, .ref (E.2.1 10 1)), (11, .ref (E.2.1 10 2)), (12, .ref (E.2.1 10 3)), (13, .int x13), (14, .int x14), (15, .int x15)]) ([]) _
      refine cr_bds (fun S67_9 => ?_)
      refine cr_iload X 15 rfl dL_ahead_70 ?_
      refine cr_if_ne X 86 dL_ahead_72 rfl ?_ ?_
      · refine cr_iload X 15 rfl dL_ahead_86 ?_
        refine cr_iconst X (1 : Int32) (by decide) dL_ahead_88 ?_
        refine cr_icmp_ne X 98 dL_ahead_89 rfl ?_ ?_
        · refine cr_bipush X (48 : Int32) (by decide) dL_ahead_98 ?_
          refine cr_sub (lv' := [(0, .ref (E.2.1 8 0)), (1, .int x1), (2, .ref (E.2.1 9 0)), (3, .ref (E.2.1 9 1)), (4, .ref (E.2.1 9 2)), (5, .ref (E.2.1 11 0)), (6, .ref (E.2.1 11 1)), (7, .ref (E.2.1 11 2)), (8, .ref (E.2.1 9 3)), (9, .ref (E.2.1 10 0)), (10, .ref (E.2.1 10 1)), (11, .ref (E.2.1 10 2)), (12, .ref (E.2.1 10 3)), (13, .int x13), (14, .int x14), (15, .int x15)]) [0, 1, 2, 3, 4, 5, 6, 7, 8, 9, 10, 11, 12, 13, 14, 15] rfl ?_
          exact b_L_ahead_100 X hfl hend (fun x1a x13a x14a x15a Sa => s_L_ahead_33 n x1a x13a x14a x15a Sa) ih x1 x13 x14 x15 ((48 : Int32)) S67_9
        · refine cr_sipush X (500 : Int32) (by decide) dL_ahead_92 ?_
          refine cr_goto X 100 dL_ahead_95 rfl ?_
          refine cr_sub (lv' := [(0, .ref (E.2.1 8 0)), (1, .int x1), (2, .ref (E.2.1 9 0)), (3, .ref (E.2.1 9 1)), (4, .ref (E.2.1 9 2)), (5, .ref (E.2.1 11 0)), (6, .ref (E.2.1 11 1)), (7, .ref (E.2.1 11 2)), (8, .ref (E.2.1 9 3)), (9, .ref (E.2.1 10 0)), (10, .ref (E.2.1 10 1)), (11, .ref (E.2.1 10 2)), (12, .ref (E.2.1 10 3)), (13, .int x13), (14, .int x14), (15, .int x15)]) [0, 1, 2, 3, 4, 5, 6, 7, 8, 9, 10, 11, 12, 13, 14, 15] rfl ?_
          exact b_L_ahead_100 X hfl hend (fun x1a x13a x14a x15a Sa => s_L_ahead_33 n x1a x13a x14a x15a Sa) ih x1 x13 x14 x15 ((500 : Int32)) S67_9
      · refine cr_iconst X (1 : Int32) (by decide) dL_ahead_75 ?_
        refine cr_iload_n X 1 rfl dL_ahead_76 ?_
        refine cr_bipush X (60 : Int32) (by decide) dL_ahead_77 ?_
        refine cr_callS X (As := [.int x1, .int ((60 : Int32))]) (rest := [.int ((1 : Int32))]) (c_L_at Γ.2.1 E hEK S67_9 x1 ((60 : Int32))) 2 gL_ahead_L_at rfl rfl rfl (by decide +kernel) ⟨Nat.le_of_ble_eq_true rfl, Nat.le_of_ble_eq_true rfl⟩ (by decide) rfl rfl (Nat.le_of_ble_eq_true rfl) dL_ahead_79 (fun r79_10 => ?_)
        show cr_P Γ E 21 _ 4 104 S67_9 82 ([(0, .ref (E.2.1 8 0)), (1, .int x1), (2, .ref (E.2.1 9 0)), (3, .ref (E.2.1 9 1)), (4, .ref (E.2.1 9 2)), (5, .ref (E.2.1 11 0)), (6, .ref (E.2.1 11 1)), (7, .ref (E.2.1 11 2)), (8, .ref (E.2.1 9 3)), (9, .ref (E.2.1 10 0)), (10, .ref (E.2.1 10 1)), (11, .ref (E.2.1 10 2)), (12, .ref (E.2.1 10 3)), (13, .int x13), (14, .int x14), (15, .int x15)]) ([.int r79_10, .int ((1 : Int32))]) _
        refine cr_iadd X dL_ahead_82 ?_
        refine cr_goto X 100 dL_ahead_83 rfl ?_
        refine cr_sub (lv' := [(0, .ref (E.2.1 8 0)), (1, .int x1), (2, .ref (E.2.1 9 0)), (3, .ref (E.2.1 9 1)), (4, .ref (E.2.1 9 2)), (5, .ref (E.2.1 11 0)), (6, .ref (E.2.1 11 1)), (7, .ref (E.2.1 11 2)), (8, .ref (E.2.1 9 3)), (9, .ref (E.2.1 10 0)), (10, .ref (E.2.1 10 1)), (11, .ref (E.2.1 10 2)), (12, .ref (E.2.1 10 3)), (13, .int x13), (14, .int x14), (15, .int x15)]) [0, 1, 2, 3, 4, 5, 6, 7, 8, 9, 10, 11, 12, 13, 14, 15] rfl ?_
        exact b_L_ahead_100 X hfl hend (fun x1a x13a x14a x15a Sa => s_L_ahead_33 n x1a x13a x14a x15a Sa) ih x1 x13 x14 x15 (((1 : Int32) + r79_10)) S67_9
set_option maxHeartbeats 4000000 in
set_option maxRecDepth 100000 in
theorem b_L_ahead {Γ : cr_C} {E : cr_E} (X : cr_X Γ E cL_ahead 21 RL wsL_ahead rm_L_ahead (some .boolean)) (hfl : cr_fl E) {Φ : Bool × cr_S → (State → Prop) → Prop} (hend : ∀ (b : Bool) (S : cr_S) (pc : Nat) (lv : List (Nat × Value)), decode cL_ahead pc = .ok (.ireturn, 1) → cr_P Γ E 21 Φ 4 104 S pc lv [.int (cr_b b)] (some (b, S))) (S : cr_S) (p1 : Int32) : cr_P Γ E 21 Φ 4 104 S 24 ([(0, .ref (E.2.1 8 0)), (1, .int p1), (2, .ref (E.2.1 9 0)), (3, .ref (E.2.1 9 1)), (4, .ref (E.2.1 9 2)), (5, .ref (E.2.1 11 0)), (6, .ref (E.2.1 11 1)), (7, .ref (E.2.1 11 2)), (8, .ref (E.2.1 9 3)), (9, .ref (E.2.1 10 0)), (10, .ref (E.2.1 10 1)), (11, .ref (E.2.1 10 2)), (12, .ref (E.2.1 10 3))]) [] (s_L_ahead p1 S) := by
  have hEK := X.2.2.2.2.2.2.1
  unfold s_L_ahead
  refine cr_iconst X (-1 : Int32) (by decide) dL_ahead_24 ?_
  refine cr_istore X ([(13, .int ((-1 : Int32))), (0, .ref (E.2.1 8 0)), (1, .int p1), (2, .ref (E.2.1 9 0)), (3, .ref (E.2.1 9 1)), (4, .ref (E.2.1 9 2)), (5, .ref (E.2.1 11 0)), (6, .ref (E.2.1 11 1)), (7, .ref (E.2.1 11 2)), (8, .ref (E.2.1 9 3)), (9, .ref (E.2.1 10 0)), (10, .ref (E.2.1 10 1)), (11, .ref (E.2.1 10 2)), (12, .ref (E.2.1 10 3))]) rfl (by decide) dL_ahead_25 ?_
  refine cr_iconst X (0 : Int32) (by decide) dL_ahead_27 ?_
  refine cr_istore X ([(14, .int ((0 : Int32))), (13, .int ((-1 : Int32))), (0, .ref (E.2.1 8 0)), (1, .int p1), (2, .ref (E.2.1 9 0)), (3, .ref (E.2.1 9 1)), (4, .ref (E.2.1 9 2)), (5, .ref (E.2.1 11 0)), (6, .ref (E.2.1 11 1)), (7, .ref (E.2.1 11 2)), (8, .ref (E.2.1 9 3)), (9, .ref (E.2.1 10 0)), (10, .ref (E.2.1 10 1)), (11, .ref (E.2.1 10 2)), (12, .ref (E.2.1 10 3))]) rfl (by decide) dL_ahead_28 ?_
  refine cr_iconst X (0 : Int32) (by decide) dL_ahead_30 ?_
  refine cr_istore X ([(15, .int ((0 : Int32))), (14, .int ((0 : Int32))), (13, .int ((-1 : Int32))), (0, .ref (E.2.1 8 0)), (1, .int p1), (2, .ref (E.2.1 9 0)), (3, .ref (E.2.1 9 1)), (4, .ref (E.2.1 9 2)), (5, .ref (E.2.1 11 0)), (6, .ref (E.2.1 11 1)), (7, .ref (E.2.1 11 2)), (8, .ref (E.2.1 9 3)), (9, .ref (E.2.1 10 0)), (10, .ref (E.2.1 10 1)), (11, .ref (E.2.1 10 2)), (12, .ref (E.2.1 10 3))]) rfl (by decide) dL_ahead_31 ?_
  refine cr_sub (lv' := [(0, .ref (E.2.1 8 0)), (1, .int p1), (2, .ref (E.2.1 9 0)), (3, .ref (E.2.1 9 1)), (4, .ref (E.2.1 9 2)), (5, .ref (E.2.1 11 0)), (6, .ref (E.2.1 11 1)), (7, .ref (E.2.1 11 2)), (8, .ref (E.2.1 9 3)), (9, .ref (E.2.1 10 0)), (10, .ref (E.2.1 10 1)), (11, .ref (E.2.1 10 2)), (12, .ref (E.2.1 10 3)), (13, .int ((-1 : Int32))), (14, .int ((0 : Int32))), (15, .int ((0 : Int32)))]) [3, 4, 5, 6, 7, 8, 9, 10, 11, 12, 13, 14, 15, 2, 1, 0] rfl ?_
  exact b_L_ahead_33 X hfl hend 1200 p1 ((-1 : Int32)) ((0 : Int32)) ((0 : Int32)) S
