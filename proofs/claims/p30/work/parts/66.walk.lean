/-! ### the law's own loop: its walk -/
theorem cr_wid {α : Type} {Γ : cr_C} {E : cr_E} {nL : Nat} {Φ : α → (State → Prop) → Prop} {kc ks k n : Nat} {S : cr_S} {pc : Nat} {lv : List (Nat × Value)} {st : List Value} {res : Option α} (h1 : kc ≤ k) (h2 : ks ≤ n) (kk : cr_P Γ E nL Φ k n S pc lv st res) : cr_P Γ E nL Φ kc ks S pc lv st res := fun Q a e1 e2 H locs ls hW hS hl => W.widen h1 h2 (kk Q a e1 e2 H locs ls hW hS hl)
theorem k_int_law0 : Cond.constant RL 158 (2147483647) ∈ wsL_law0 := List.mem_append_left _ (List.mem_append_left _ (List.mem_append_left _ (List.mem_append_left _ (List.mem_append_left _ (List.mem_append_left _ (List.mem_append_left _ (List.mem_append_left _ (List.mem_append_left _ (List.mem_append_left _ (List.mem_append_left _ (List.mem_of_getElem? (i := 4) (by rfl))))))))))))
set_option maxHeartbeats 4000000 in
set_option maxRecDepth 100000 in
theorem b_L_law_310 {Γ : cr_C} {E : cr_E} (X : cr_X Γ E cL_law 13 RL wsL_law0 room_1 (some .boolean)) {Φ : Unit → (State → Prop) → Prop} {kc ks : Nat} (hkc : kc + 4 ≤ 600130) (hks : ks + 104 ≤ 7301080) (hend : ∀ (kc ks : Nat) (S : cr_S) (lv : List (Nat × Value)), kc ≤ 600130 → ks ≤ 7301080 → cr_P Γ E 13 Φ kc ks S 324 lv [.int (1 : Int32)] (some ())) {b : Nat} (x9 : Int32) (S : cr_S) : cr_P Γ E 13 Φ kc ks S 310 [(0, .ref b), (1, .ref (E.2.1 8 0)), (2, .ref (E.2.1 9 0)), (3, .ref (E.2.1 9 1)), (4, .ref (E.2.1 9 2)), (5, .ref (E.2.1 11 0)), (6, .ref (E.2.1 11 1)), (7, .ref (E.2.1 11 2)), (8, .ref (E.2.1 9 3)), (9, .int x9)] [] (s_L_law_310 S) := by
  have hEK := X.2.2.2.2.2.2.1
  unfold s_L_law_310
  refine cr_aload_n X 1 rfl dL_law_310 ?_
  refine cr_bipush X (14 : Int32) (by decide) dL_law_311 ?_
  refine cr_callV X (As := [.int (14 : Int32)]) (rest := []) (c_X8_count Γ.2.1 E hEK S (14 : Int32)) ((cr_b0 E).at rfl rfl) rfl 1 gL_law_X8_count rfl rfl rfl (by decide +kernel) ⟨Nat.le_of_ble_eq_true rfl, Nat.le_of_ble_eq_true rfl⟩ ⟨by show kc ≤ 600130; omega, by show ks ≤ 7301080; omega⟩ rfl rfl (Nat.le_of_ble_eq_true rfl) dL_law_313 (fun r => ?_)
  show cr_P Γ E 13 _ kc ks S 316 [(0, .ref b), (1, .ref (E.2.1 8 0)), (2, .ref (E.2.1 9 0)), (3, .ref (E.2.1 9 1)), (4, .ref (E.2.1 9 2)), (5, .ref (E.2.1 11 0)), (6, .ref (E.2.1 11 1)), (7, .ref (E.2.1 11 2)), (8, .ref (E.2.1 9 3)), (9, .int x9)] [.int r] _
  refine cr_if_le X 323 dL_law_316 rfl cr_none ?_
  refine cr_iconst X (1 : Int32) (by decide) dL_law_319 ?_
  refine cr_goto X 324 dL_law_320 rfl ?_
  exact hend kc ks S _ (by omega) (by omega)
set_option maxHeartbeats 4000000 in
set_option maxRecDepth 100000 in
theorem b_L_law_304 {Γ : cr_C} {E : cr_E} (X : cr_X Γ E cL_law 13 RL wsL_law0 room_1 (some .boolean)) {Φ : Unit → (State → Prop) → Prop} {kc ks : Nat} (x9 x10 x11 y0 : Int32) (k : Int32 → cr_S → Option Unit) {b : Nat} (hk : ∀ S : cr_S, cr_P Γ E 13 Φ (kc + 4) (ks + 104) S 131 [(0, .ref b), (1, .ref (E.2.1 8 0)), (2, .ref (E.2.1 9 0)), (3, .ref (E.2.1 9 1)), (4, .ref (E.2.1 9 2)), (5, .ref (E.2.1 11 0)), (6, .ref (E.2.1 11 1)), (7, .ref (E.2.1 11 2)), (8, .ref (E.2.1 9 3)), (9, .int (x9 + 1))] [] (k (x9 + 1) S)) (S : cr_S) : cr_P Γ E 13 Φ (kc + 4) (ks + 104) S 304 [(12, .int y0), (11, .int x11), (10, .int x10), (0, .ref b), (1, .ref (E.2.1 8 0)), (2, .ref (E.2.1 9 0)), (3, .ref (E.2.1 9 1)), (4, .ref (E.2.1 9 2)), (5, .ref (E.2.1 11 0)), (6, .ref (E.2.1 11 1)), (7, .ref (E.2.1 11 2)), (8, .ref (E.2.1 9 3)), (9, .int x9)] [] (cr_bd (x9 + 1) (fun v => k v S)) := by
  show cr_P Γ E 13 Φ (kc + 4) (ks + 104) S 304 [(12, .int y0), (11, .int x11), (10, .int x10), (0, .ref b), (1, .ref (E.2.1 8 0)), (2, .ref (E.2.1 9 0)), (3, .ref (E.2.1 9 1)), (4, .ref (E.2.1 9 2)), (5, .ref (E.2.1 11 0)), (6, .ref (E.2.1 11 1)), (7, .ref (E.2.1 11 2)), (8, .ref (E.2.1 9 3)), (9, .int x9)] [] (k (x9 + 1) S)
  refine cr_iinc0 X (x9 + 1) [(9, .int (x9 + 1)), (12, .int y0), (11, .int x11), (10, .int x10), (0, .ref b), (1, .ref (E.2.1 8 0)), (2, .ref (E.2.1 9 0)), (3, .ref (E.2.1 9 1)), (4, .ref (E.2.1 9 2)), (5, .ref (E.2.1 11 0)), (6, .ref (E.2.1 11 1)), (7, .ref (E.2.1 11 2)), (8, .ref (E.2.1 9 3))] 12 rfl rfl rfl (by decide) dL_law_304 ?_
  refine cr_goto X 131 dL_law_307 rfl ?_
  refine cr_sub (lv' := [(0, .ref b), (1, .ref (E.2.1 8 0)), (2, .ref (E.2.1 9 0)), (3, .ref (E.2.1 9 1)), (4, .ref (E.2.1 9 2)), (5, .ref (E.2.1 11 0)), (6, .ref (E.2.1 11 1)), (7, .ref (E.2.1 11 2)), (8, .ref (E.2.1 9 3)), (9, .int (x9 + 1))]) [4, 5, 6, 7, 8, 9, 10, 11, 12, 0] rfl ?_
  exact hk S
set_option maxHeartbeats 4000000 in
set_option maxRecDepth 100000 in
theorem b_L_law_271 {Γ : cr_C} {E : cr_E} (X : cr_X Γ E cL_law 13 RL wsL_law0 room_1 (some .boolean)) (hnf : ¬ cr_fl E) (hup : ∀ q, E.2.1 8 0 ≤ q → E.2.2.1 q) {Φ : Unit → (State → Prop) → Prop} {kc ks : Nat} (hkc : kc + 4 ≤ 600130) (hks : ks + 104 ≤ 7301080) (x9 x10 x11 y0 : Int32) (k : Int32 → cr_S → Option Unit) {b : Nat} (hk : ∀ S : cr_S, cr_P Γ E 13 Φ (kc + 4) (ks + 104) S 131 [(0, .ref b), (1, .ref (E.2.1 8 0)), (2, .ref (E.2.1 9 0)), (3, .ref (E.2.1 9 1)), (4, .ref (E.2.1 9 2)), (5, .ref (E.2.1 11 0)), (6, .ref (E.2.1 11 1)), (7, .ref (E.2.1 11 2)), (8, .ref (E.2.1 9 3)), (9, .int (x9 + 1))] [] (k (x9 + 1) S)) (S : cr_S) : cr_P Γ E 13 Φ kc ks S 271 [(12, .int y0), (11, .int x11), (10, .int x10), (0, .ref b), (1, .ref (E.2.1 8 0)), (2, .ref (E.2.1 9 0)), (3, .ref (E.2.1 9 1)), (4, .ref (E.2.1 9 2)), (5, .ref (E.2.1 11 0)), (6, .ref (E.2.1 11 1)), (7, .ref (E.2.1 11 2)), (8, .ref (E.2.1 9 3)), (9, .int x9)] [] (s_L_law_271 k x9 x11 S) := by
  have hEK := X.2.2.2.2.2.2.1
  unfold s_L_law_271
  refine cr_iload X 12 rfl dL_law_271 ?_
  refine cr_iconst X (4 : Int32) (by decide) dL_law_273 ?_
  refine cr_iremk X (by decide) dL_law_274 ?_
  refine cr_iconst X (3 : Int32) (by decide) dL_law_275 ?_
  refine cr_icmp_ne X 304 dL_law_276 rfl ?_ ?_
  · exact cr_wid (Nat.le_add_right _ _) (Nat.le_add_right _ _) (b_L_law_304 X x9 x10 x11 y0 k hk S)
  · refine cr_aload_n X 4 rfl dL_law_279 ?_
    refine cr_iload X 1 rfl dL_law_280 ?_
    refine cr_iconst X (3 : Int32) (by decide) dL_law_282 ?_
    refine cr_ishr X dL_law_283 ?_
    refine cr_aload_n X 5 rfl dL_law_284 ?_
    refine cr_aload_n X 6 rfl dL_law_285 ?_
    refine cr_aload X 7 rfl dL_law_286 ?_
    refine cr_aload X 8 rfl dL_law_288 ?_
    refine cr_aload X 9 rfl dL_law_290 ?_
    refine cr_aload X 10 rfl dL_law_292 ?_
    refine cr_aload X 11 rfl dL_law_294 ?_
    refine cr_callS4 X (As := [.ref (E.2.1 8 0), .int (x11 >>> ((3 : Int32) &&& 31)), .ref (E.2.1 9 0), .ref (E.2.1 9 1), .ref (E.2.1 9 2), .ref (E.2.1 11 0), .ref (E.2.1 11 1), .ref (E.2.1 11 2), .ref (E.2.1 9 3)]) (rest := []) (c_L_ahead Γ.2.1 E hEK hnf hup S (x11 >>> ((3 : Int32) &&& 31))) 9 gL_law_L_ahead rfl rfl rfl (by decide +kernel) ⟨Nat.le_of_ble_eq_true rfl, Nat.le_of_ble_eq_true rfl⟩ ⟨hkc, hks⟩ rfl rfl (Nat.le_of_ble_eq_true rfl) dL_law_296 (fun r => ?_)
    show cr_P Γ E 13 _ (kc + 4) (ks + 104) r.2 299 [(12, .int y0), (11, .int x11), (10, .int x10), (0, .ref b), (1, .ref (E.2.1 8 0)), (2, .ref (E.2.1 9 0)), (3, .ref (E.2.1 9 1)), (4, .ref (E.2.1 9 2)), (5, .ref (E.2.1 11 0)), (6, .ref (E.2.1 11 1)), (7, .ref (E.2.1 11 2)), (8, .ref (E.2.1 9 3)), (9, .int x9)] [.int (cr_b r.1)] _
    refine cr_ifb_ne X 304 dL_law_299 rfl ?_ cr_none
    exact b_L_law_304 X x9 x10 x11 y0 k hk r.2
set_option maxHeartbeats 4000000 in
set_option maxRecDepth 100000 in
theorem b_L_law_219 {Γ : cr_C} {E : cr_E} (X : cr_X Γ E cL_law 13 RL wsL_law0 room_1 (some .boolean)) (hnf : ¬ cr_fl E) (hup : ∀ q, E.2.1 8 0 ≤ q → E.2.2.1 q) {Φ : Unit → (State → Prop) → Prop} {kc ks : Nat} (hkc : kc + 4 ≤ 600130) (hks : ks + 104 ≤ 7301080) (x9 x10 x11 y0 : Int32) (k : Int32 → cr_S → Option Unit) {b : Nat} (hk : ∀ S : cr_S, cr_P Γ E 13 Φ (kc + 4) (ks + 104) S 131 [(0, .ref b), (1, .ref (E.2.1 8 0)), (2, .ref (E.2.1 9 0)), (3, .ref (E.2.1 9 1)), (4, .ref (E.2.1 9 2)), (5, .ref (E.2.1 11 0)), (6, .ref (E.2.1 11 1)), (7, .ref (E.2.1 11 2)), (8, .ref (E.2.1 9 3)), (9, .int (x9 + 1))] [] (k (x9 + 1) S)) (S : cr_S) : cr_P Γ E 13 Φ kc ks S 219 [(11, .int x11), (10, .int x10), (0, .ref b), (1, .ref (E.2.1 8 0)), (2, .ref (E.2.1 9 0)), (3, .ref (E.2.1 9 1)), (4, .ref (E.2.1 9 2)), (5, .ref (E.2.1 11 0)), (6, .ref (E.2.1 11 1)), (7, .ref (E.2.1 11 2)), (8, .ref (E.2.1 9 3)), (9, .int x9)] [.int y0] (s_L_law_219 k x9 x10 x11 y0 S) := by
  have hEK := X.2.2.2.2.2.2.1
  unfold s_L_law_219
  refine cr_istore X [(12, .int y0), (11, .int x11), (10, .int x10), (0, .ref b), (1, .ref (E.2.1 8 0)), (2, .ref (E.2.1 9 0)), (3, .ref (E.2.1 9 1)), (4, .ref (E.2.1 9 2)), (5, .ref (E.2.1 11 0)), (6, .ref (E.2.1 11 1)), (7, .ref (E.2.1 11 2)), (8, .ref (E.2.1 9 3)), (9, .int x9)] rfl (by decide) dL_law_219 ?_
  refine cr_aload_n X 4 rfl dL_law_221 ?_
  refine cr_iload X 0 rfl dL_law_222 ?_
  refine cr_iload X 2 rfl dL_law_224 ?_
  refine cr_iload X 1 rfl dL_law_226 ?_
  refine cr_aload_n X 5 rfl dL_law_228 ?_
  refine cr_aload_n X 6 rfl dL_law_229 ?_
  refine cr_aload X 7 rfl dL_law_230 ?_
  refine cr_aload X 8 rfl dL_law_232 ?_
  refine cr_aload X 9 rfl dL_law_234 ?_
  refine cr_aload X 10 rfl dL_law_236 ?_
  refine cr_aload X 11 rfl dL_law_238 ?_
  refine cr_callS X (As := [.ref (E.2.1 8 0), .int y0, .int x10, .int x11, .ref (E.2.1 9 0), .ref (E.2.1 9 1), .ref (E.2.1 9 2), .ref (E.2.1 11 0), .ref (E.2.1 11 1), .ref (E.2.1 11 2), .ref (E.2.1 9 3)]) (rest := []) (c_L_act Γ.2.1 E hEK S y0 x10 x11) 11 gL_law_L_act rfl rfl rfl (by decide +kernel) ⟨Nat.le_of_ble_eq_true rfl, Nat.le_of_ble_eq_true rfl⟩ ⟨by show kc ≤ 600130; omega, by show ks ≤ 7301080; omega⟩ rfl rfl (Nat.le_of_ble_eq_true rfl) dL_law_240 (fun r => ?_)
  show cr_P Γ E 13 _ kc ks r.2 243 [(12, .int y0), (11, .int x11), (10, .int x10), (0, .ref b), (1, .ref (E.2.1 8 0)), (2, .ref (E.2.1 9 0)), (3, .ref (E.2.1 9 1)), (4, .ref (E.2.1 9 2)), (5, .ref (E.2.1 11 0)), (6, .ref (E.2.1 11 1)), (7, .ref (E.2.1 11 2)), (8, .ref (E.2.1 9 3)), (9, .int x9)] [.int (cr_b r.1)] _
  refine cr_ifb_eq X 269 dL_law_243 rfl cr_none ?_
  refine cr_aload_n X 4 rfl dL_law_246 ?_
  refine cr_iload X 1 rfl dL_law_247 ?_
  refine cr_iconst X (2 : Int32) (by decide) dL_law_249 ?_
  refine cr_ishr X dL_law_250 ?_
  refine cr_aload_n X 5 rfl dL_law_251 ?_
  refine cr_aload_n X 6 rfl dL_law_252 ?_
  refine cr_aload X 7 rfl dL_law_253 ?_
  refine cr_aload X 8 rfl dL_law_255 ?_
  refine cr_aload X 9 rfl dL_law_257 ?_
  refine cr_aload X 10 rfl dL_law_259 ?_
  refine cr_aload X 11 rfl dL_law_261 ?_
  refine cr_callS X (As := [.ref (E.2.1 8 0), .int (x11 >>> ((2 : Int32) &&& 31)), .ref (E.2.1 9 0), .ref (E.2.1 9 1), .ref (E.2.1 9 2), .ref (E.2.1 11 0), .ref (E.2.1 11 1), .ref (E.2.1 11 2), .ref (E.2.1 9 3)]) (rest := []) (c_L_told Γ.2.1 E hEK r.2 (x11 >>> ((2 : Int32) &&& 31))) 9 gL_law_L_told rfl rfl rfl (by decide +kernel) ⟨Nat.le_of_ble_eq_true rfl, Nat.le_of_ble_eq_true rfl⟩ ⟨by show kc ≤ 600130; omega, by show ks ≤ 7301080; omega⟩ rfl rfl (Nat.le_of_ble_eq_true rfl) dL_law_263 (fun z => ?_)
  show cr_P Γ E 13 _ kc ks r.2 266 [(12, .int y0), (11, .int x11), (10, .int x10), (0, .ref b), (1, .ref (E.2.1 8 0)), (2, .ref (E.2.1 9 0)), (3, .ref (E.2.1 9 1)), (4, .ref (E.2.1 9 2)), (5, .ref (E.2.1 11 0)), (6, .ref (E.2.1 11 1)), (7, .ref (E.2.1 11 2)), (8, .ref (E.2.1 9 3)), (9, .int x9)] [.int (cr_b z)] _
  refine cr_ifb_ne X 271 dL_law_266 rfl ?_ cr_none
  exact b_L_law_271 X hnf hup hkc hks x9 x10 x11 y0 k hk r.2
set_option maxHeartbeats 4000000 in
set_option maxRecDepth 100000 in
theorem b_L_law_166 {Γ : cr_C} {E : cr_E} (X : cr_X Γ E cL_law 13 RL wsL_law0 room_1 (some .boolean)) (hnf : ¬ cr_fl E) (hup : ∀ q, E.2.1 8 0 ≤ q → E.2.2.1 q) {Φ : Unit → (State → Prop) → Prop} {kc ks : Nat} (hkc : kc + 4 ≤ 600130) (hks : ks + 104 ≤ 7301080) (x9 x10 x11 : Int32) (k : Int32 → cr_S → Option Unit) {b : Nat} (hk : ∀ S : cr_S, cr_P Γ E 13 Φ (kc + 4) (ks + 104) S 131 [(0, .ref b), (1, .ref (E.2.1 8 0)), (2, .ref (E.2.1 9 0)), (3, .ref (E.2.1 9 1)), (4, .ref (E.2.1 9 2)), (5, .ref (E.2.1 11 0)), (6, .ref (E.2.1 11 1)), (7, .ref (E.2.1 11 2)), (8, .ref (E.2.1 9 3)), (9, .int (x9 + 1))] [] (k (x9 + 1) S)) (S : cr_S) : cr_P Γ E 13 Φ kc ks S 166 [(11, .int x11), (10, .int x10), (0, .ref b), (1, .ref (E.2.1 8 0)), (2, .ref (E.2.1 9 0)), (3, .ref (E.2.1 9 1)), (4, .ref (E.2.1 9 2)), (5, .ref (E.2.1 11 0)), (6, .ref (E.2.1 11 1)), (7, .ref (E.2.1 11 2)), (8, .ref (E.2.1 9 3)), (9, .int x9)] [] (s_L_law_166 k x9 x10 x11 S) := by
  have hEK := X.2.2.2.2.2.2.1
  unfold s_L_law_166
  refine cr_iload X 11 rfl dL_law_166 ?_
  refine cr_iconst X (3 : Int32) (by decide) dL_law_168 ?_
  refine cr_icmp_ge X 176 dL_law_169 rfl ?_ ?_
  · refine cr_iload X 11 rfl dL_law_176 ?_
    refine cr_iconst X (3 : Int32) (by decide) dL_law_178 ?_
    refine cr_icmp_ne X 187 dL_law_179 rfl ?_ ?_
    · refine cr_iload X 11 rfl dL_law_187 ?_
      refine cr_iconst X (4 : Int32) (by decide) dL_law_189 ?_
      refine cr_icmp_ne X 198 dL_law_190 rfl ?_ ?_
      · refine cr_iload X 11 rfl dL_law_198 ?_
        refine cr_iconst X (5 : Int32) (by decide) dL_law_200 ?_
        refine cr_icmp_ne X 209 dL_law_201 rfl ?_ ?_
        · refine cr_iload X 1 rfl dL_law_209 ?_
          refine cr_bipush X (13 : Int32) (by decide) dL_law_211 ?_
          refine cr_ishr X dL_law_213 ?_
          refine cr_bipush X (18 : Int32) (by decide) dL_law_214 ?_
          refine cr_callS X (As := [.int (x10 >>> ((13 : Int32) &&& 31)), .int (18 : Int32)]) (rest := []) (c_L_at Γ.2.1 E hEK S (x10 >>> ((13 : Int32) &&& 31)) (18 : Int32)) 2 gL_law_L_at rfl rfl rfl (by decide +kernel) ⟨Nat.le_of_ble_eq_true rfl, Nat.le_of_ble_eq_true rfl⟩ ⟨by show kc ≤ 600130; omega, by show ks ≤ 7301080; omega⟩ rfl rfl (Nat.le_of_ble_eq_true rfl) dL_law_216 (fun r => ?_)
          exact b_L_law_219 X hnf hup hkc hks x9 x10 x11 r k hk S
        · refine cr_bipush X (12 : Int32) (by decide) dL_law_204 ?_
          refine cr_goto X 219 dL_law_206 rfl ?_
          exact b_L_law_219 X hnf hup hkc hks x9 x10 x11 (12 : Int32) k hk S
      · refine cr_bipush X (8 : Int32) (by decide) dL_law_193 ?_
        refine cr_goto X 219 dL_law_195 rfl ?_
        exact b_L_law_219 X hnf hup hkc hks x9 x10 x11 (8 : Int32) k hk S
    · refine cr_bipush X (6 : Int32) (by decide) dL_law_182 ?_
      refine cr_goto X 219 dL_law_184 rfl ?_
      exact b_L_law_219 X hnf hup hkc hks x9 x10 x11 (6 : Int32) k hk S
  · refine cr_iconst X (4 : Int32) (by decide) dL_law_172 ?_
    refine cr_goto X 219 dL_law_173 rfl ?_
    exact b_L_law_219 X hnf hup hkc hks x9 x10 x11 (4 : Int32) k hk S
set_option maxHeartbeats 4000000 in
set_option maxRecDepth 100000 in
theorem b_L_law_131 {Γ : cr_C} {E : cr_E} (X : cr_X Γ E cL_law 13 RL wsL_law0 room_1 (some .boolean)) (hnf : ¬ cr_fl E) (hup : ∀ q, E.2.1 8 0 ≤ q → E.2.2.1 q) {Φ : Unit → (State → Prop) → Prop} (hend : ∀ (kc ks : Nat) (S : cr_S) (lv : List (Nat × Value)), kc ≤ 600130 → ks ≤ 7301080 → cr_P Γ E 13 Φ kc ks S 324 lv [.int (1 : Int32)] (some ())) {b L : Nat} {xs : Nat → Int32} (SC : cr_SR E b L xs Γ.2.2.2.2.1) : ∀ (n j : Nat) (x9 : Int32) (S : cr_S), j ≤ 26 → x9 = nI j → cr_P Γ E 13 Φ (300 + 4 * j) (4000 + 104 * j) S 131 [(0, .ref b), (1, .ref (E.2.1 8 0)), (2, .ref (E.2.1 9 0)), (3, .ref (E.2.1 9 1)), (4, .ref (E.2.1 9 2)), (5, .ref (E.2.1 11 0)), (6, .ref (E.2.1 11 1)), (7, .ref (E.2.1 11 2)), (8, .ref (E.2.1 9 3)), (9, .int x9)] [] (s_L_law_131 xs L n x9 S) := by
  have hEK := X.2.2.2.2.2.2.1
  intro n
  induction n with
  | zero => intro j x9 S _ _; exact cr_none
  | succ n ih =>
    intro j x9 S hj hx9
    rw [s_L_law_131]
    refine cr_iload X 9 rfl dL_law_131 ?_
    refine cr_bipush X (26 : Int32) (by decide) dL_law_133 ?_
    by_cases h26 : (26 : Int32) ≤ x9
    · rw [if_pos h26]
      rw [← if_pos (c := (26 : Int32) ≤ x9) (t := s_L_law_310 S) (e := none) h26]
      refine cr_icmp_ge X 310 dL_law_135 rfl ?_ cr_none
      exact b_L_law_310 X (by omega) (by omega) hend x9 S
    · have hj26 : j < 26 := by
        by_cases e : j < 26
        · exact e
        · have e9 : j = 26 := by omega
          rw [hx9, e9] at h26
          exact absurd (show (26 : Int32) ≤ nI 26 by decide) h26
      refine cr_icmp_ge X 310 dL_law_135 rfl (b_L_law_310 X (by omega) (by omega) hend x9 S) ?_
      refine cr_aload_n X 0 rfl dL_law_138 ?_
      refine cr_iconst X (2 : Int32) (by decide) dL_law_139 ?_
      refine cr_iload X 9 rfl dL_law_140 ?_
      refine cr_imul X dL_law_142 ?_
      refine cr_callSb X (As := [.ref b, .int ((2 : Int32) * x9)]) (rest := []) SC (c_L_cell Γ.2.1 E hEK S ((2 : Int32) * x9)) 2 gL_law_L_cell rfl rfl rfl (by decide +kernel) ⟨Nat.le_of_ble_eq_true rfl, Nat.le_of_ble_eq_true rfl⟩ ⟨by show 300 + 4 * j ≤ 600130; omega, by show 4000 + 104 * j ≤ 7301080; omega⟩ rfl rfl (Nat.le_of_ble_eq_true rfl) dL_law_143 (fun r => ?_)
      show cr_P Γ E 13 _ (300 + 4 * j) (4000 + 104 * j) S 146 [(0, .ref b), (1, .ref (E.2.1 8 0)), (2, .ref (E.2.1 9 0)), (3, .ref (E.2.1 9 1)), (4, .ref (E.2.1 9 2)), (5, .ref (E.2.1 11 0)), (6, .ref (E.2.1 11 1)), (7, .ref (E.2.1 11 2)), (8, .ref (E.2.1 9 3)), (9, .int x9)] [.int r] _
      refine cr_ldc X k_int_law0 dL_law_146 ?_
      refine cr_iand X dL_law_148 ?_
      refine cr_istoreb X (fun x10 => [(10, .int x10), (0, .ref b), (1, .ref (E.2.1 8 0)), (2, .ref (E.2.1 9 0)), (3, .ref (E.2.1 9 1)), (4, .ref (E.2.1 9 2)), (5, .ref (E.2.1 11 0)), (6, .ref (E.2.1 11 1)), (7, .ref (E.2.1 11 2)), (8, .ref (E.2.1 9 3)), (9, .int x9)]) (fun _ => rfl) (by decide) dL_law_149 (fun x10 => ?_)
      refine cr_aload_n X 1 rfl dL_law_151 ?_
      refine cr_iconst X (2 : Int32) (by decide) dL_law_152 ?_
      refine cr_iload X 10 rfl dL_law_153 ?_
      refine cr_imul X dL_law_155 ?_
      refine cr_iconst X (1 : Int32) (by decide) dL_law_156 ?_
      refine cr_iadd X dL_law_157 ?_
      refine cr_callSb X (As := [.ref b, .int ((2 : Int32) * x9 + (1 : Int32))]) (rest := []) SC (c_L_cell Γ.2.1 E hEK S ((2 : Int32) * x9 + (1 : Int32))) 2 gL_law_L_cell rfl rfl rfl (by decide +kernel) ⟨Nat.le_of_ble_eq_true rfl, Nat.le_of_ble_eq_true rfl⟩ ⟨by show 300 + 4 * j ≤ 600130; omega, by show 4000 + 104 * j ≤ 7301080; omega⟩ rfl rfl (Nat.le_of_ble_eq_true rfl) dL_law_158 (fun r2 => ?_)
      show cr_P Γ E 13 _ (300 + 4 * j) (4000 + 104 * j) S 161 [(10, .int x10), (0, .ref b), (1, .ref (E.2.1 8 0)), (2, .ref (E.2.1 9 0)), (3, .ref (E.2.1 9 1)), (4, .ref (E.2.1 9 2)), (5, .ref (E.2.1 11 0)), (6, .ref (E.2.1 11 1)), (7, .ref (E.2.1 11 2)), (8, .ref (E.2.1 9 3)), (9, .int x9)] [.int r2] _
      refine cr_ldc X k_int_law0 dL_law_161 ?_
      refine cr_iand X dL_law_163 ?_
      refine cr_istoreb X (fun x11 => [(11, .int x11), (10, .int x10), (0, .ref b), (1, .ref (E.2.1 8 0)), (2, .ref (E.2.1 9 0)), (3, .ref (E.2.1 9 1)), (4, .ref (E.2.1 9 2)), (5, .ref (E.2.1 11 0)), (6, .ref (E.2.1 11 1)), (7, .ref (E.2.1 11 2)), (8, .ref (E.2.1 9 3)), (9, .int x9)]) (fun _ => rfl) (by decide) dL_law_164 (fun x11 => ?_)
      refine b_L_law_166 X hnf hup (by omega) (by omega) x9 x10 x11 (fun v S' => s_L_law_131 xs L n v S') (fun S' => ?_) S
      have h9 := ih (j + 1) (x9 + 1) S' (by omega) (by rw [hx9]; exact pm_add j 1)
      rw [show 300 + 4 * (j + 1) = 300 + 4 * j + 4 by omega, show 4000 + 104 * (j + 1) = 4000 + 104 * j + 104 by omega] at h9
      exact h9
set_option maxHeartbeats 4000000 in
set_option maxRecDepth 100000 in
theorem b_L_law_91 {Γ : cr_C} {E : cr_E} (X : cr_X Γ E cL_law 13 RL wsL_law0 room_1 (some .boolean)) (hnf : ¬ cr_fl E) (hup : ∀ q, E.2.1 8 0 ≤ q → E.2.2.1 q) {Φ : Unit → (State → Prop) → Prop} (hend : ∀ (kc ks : Nat) (S : cr_S) (lv : List (Nat × Value)), kc ≤ 600130 → ks ≤ 7301080 → cr_P Γ E 13 Φ kc ks S 324 lv [.int (1 : Int32)] (some ())) {b L : Nat} {xs : Nat → Int32} (SC : cr_SR E b L xs Γ.2.2.2.2.1) (S : cr_S) : cr_P Γ E 13 Φ 300 4000 S 91 [(0, .ref b), (1, .ref (E.2.1 8 0)), (2, .ref (E.2.1 9 0)), (3, .ref (E.2.1 9 1)), (4, .ref (E.2.1 9 2)), (5, .ref (E.2.1 11 0)), (6, .ref (E.2.1 11 1)), (7, .ref (E.2.1 11 2)), (8, .ref (E.2.1 9 3))] [] (s_L_law_91 xs L S) := by
  have hEK := X.2.2.2.2.2.2.1
  unfold s_L_law_91
  refine cr_aload_n X 1 rfl dL_law_91 ?_
  refine cr_iconst X (5 : Int32) (by decide) dL_law_92 ?_
  refine cr_aload_n X 2 rfl dL_law_93 ?_
  refine cr_aload_n X 3 rfl dL_law_94 ?_
  refine cr_aload X 4 rfl dL_law_95 ?_
  refine cr_aload X 5 rfl dL_law_97 ?_
  refine cr_aload X 6 rfl dL_law_99 ?_
  refine cr_aload X 7 rfl dL_law_101 ?_
  refine cr_aload X 8 rfl dL_law_103 ?_
  refine cr_callS X (As := [.ref (E.2.1 8 0), .int (5 : Int32), .ref (E.2.1 9 0), .ref (E.2.1 9 1), .ref (E.2.1 9 2), .ref (E.2.1 11 0), .ref (E.2.1 11 1), .ref (E.2.1 11 2), .ref (E.2.1 9 3)]) (rest := []) (c_L_told Γ.2.1 E hEK S (5 : Int32)) 9 gL_law_L_told rfl rfl rfl (by decide +kernel) ⟨Nat.le_of_ble_eq_true rfl, Nat.le_of_ble_eq_true rfl⟩ ⟨by show 300 ≤ 600130; omega, by show 4000 ≤ 7301080; omega⟩ rfl rfl (Nat.le_of_ble_eq_true rfl) dL_law_105 (fun z => ?_)
  show cr_P Γ E 13 _ 300 4000 S 108 [(0, .ref b), (1, .ref (E.2.1 8 0)), (2, .ref (E.2.1 9 0)), (3, .ref (E.2.1 9 1)), (4, .ref (E.2.1 9 2)), (5, .ref (E.2.1 11 0)), (6, .ref (E.2.1 11 1)), (7, .ref (E.2.1 11 2)), (8, .ref (E.2.1 9 3))] [.int (cr_b z)] _
  refine cr_ifb_eq X 126 dL_law_108 rfl cr_none ?_
  refine cr_aload_n X 1 rfl dL_law_111 ?_
  refine cr_callV X (As := []) (rest := []) (c_X8_doneIn Γ.2.1 E hEK S) ((cr_b0 E).at rfl rfl) rfl 0 gL_law_X8_doneIn rfl rfl rfl (by decide +kernel) ⟨Nat.le_of_ble_eq_true rfl, Nat.le_of_ble_eq_true rfl⟩ ⟨by show 300 ≤ 600130; omega, by show 4000 ≤ 7301080; omega⟩ rfl rfl (Nat.le_of_ble_eq_true rfl) dL_law_112 (fun r => ?_)
  show cr_P Γ E 13 _ 300 4000 r.2 115 [(0, .ref b), (1, .ref (E.2.1 8 0)), (2, .ref (E.2.1 9 0)), (3, .ref (E.2.1 9 1)), (4, .ref (E.2.1 9 2)), (5, .ref (E.2.1 11 0)), (6, .ref (E.2.1 11 1)), (7, .ref (E.2.1 11 2)), (8, .ref (E.2.1 9 3))] [.int r.1] _
  refine cr_if_ne X 126 dL_law_115 rfl cr_none ?_
  refine cr_aload_n X 1 rfl dL_law_118 ?_
  refine cr_callV X (As := []) (rest := []) (c_X8_bestFirst Γ.2.1 E hEK r.2) ((cr_b0 E).at rfl rfl) rfl 0 gL_law_X8_bestFirst rfl rfl rfl (by decide +kernel) ⟨Nat.le_of_ble_eq_true rfl, Nat.le_of_ble_eq_true rfl⟩ ⟨by show 300 ≤ 600130; omega, by show 4000 ≤ 7301080; omega⟩ rfl rfl (Nat.le_of_ble_eq_true rfl) dL_law_119 (fun q => ?_)
  show cr_P Γ E 13 _ 300 4000 q.2 122 [(0, .ref b), (1, .ref (E.2.1 8 0)), (2, .ref (E.2.1 9 0)), (3, .ref (E.2.1 9 1)), (4, .ref (E.2.1 9 2)), (5, .ref (E.2.1 11 0)), (6, .ref (E.2.1 11 1)), (7, .ref (E.2.1 11 2)), (8, .ref (E.2.1 9 3))] [.int q.1] _
  refine cr_iconst X (-1 : Int32) (by decide) dL_law_122 ?_
  refine cr_icmp_eq X 128 dL_law_123 rfl ?_ cr_none
  refine cr_iconst X (0 : Int32) (by decide) dL_law_128 ?_
  refine cr_istore X [(9, .int (0 : Int32)), (0, .ref b), (1, .ref (E.2.1 8 0)), (2, .ref (E.2.1 9 0)), (3, .ref (E.2.1 9 1)), (4, .ref (E.2.1 9 2)), (5, .ref (E.2.1 11 0)), (6, .ref (E.2.1 11 1)), (7, .ref (E.2.1 11 2)), (8, .ref (E.2.1 9 3))] rfl (by decide) dL_law_129 ?_
  refine cr_sub (lv' := [(0, .ref b), (1, .ref (E.2.1 8 0)), (2, .ref (E.2.1 9 0)), (3, .ref (E.2.1 9 1)), (4, .ref (E.2.1 9 2)), (5, .ref (E.2.1 11 0)), (6, .ref (E.2.1 11 1)), (7, .ref (E.2.1 11 2)), (8, .ref (E.2.1 9 3)), (9, .int (0 : Int32))]) [1, 2, 3, 4, 5, 6, 7, 8, 9, 0] rfl ?_
  exact b_L_law_131 X hnf hup hend SC 1200 0 (0 : Int32) q.2 (by omega) rfl
