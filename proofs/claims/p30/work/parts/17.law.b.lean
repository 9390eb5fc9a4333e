abbrev rm_L_turbines : Room := { frames := 4, cells := 0, slots := 0, locals := 90 }
set_option maxHeartbeats 4000000 in
set_option maxRecDepth 100000 in
theorem b_L_turbines_240 {Γ : cr_C} {E : cr_E} (X : cr_X Γ E cL_turbines 10 RL wsL_turbines rm_L_turbines (some .boolean)) (S : cr_S) : ∀ (n : Nat) (x7 : Int32), cr_P Γ E 10 (cr_F Γ E (cr_vB S)) 0 0 S 240 ([(0, .ref (E.2.1 8 0)), (2, .ref (E.2.1 9 1)), (6, .ref (E.2.1 9 3)), (7, .int x7)]) ([]) (s_L_turbines_240 S n x7) := by
  have hEK := X.2.2.2.2.2.2.1
  intro n
  induction n with
  | zero => intro x7; exact cr_none
  | succ n ih =>
    intro x7
    rw [s_L_turbines_240]
    refine cr_iload X 3 rfl dL_turbines_240 ?_
    refine cr_aload X 2 rfl dL_turbines_242 ?_
    refine cr_bipush X (7 : Int32) (by decide) dL_turbines_244 ?_
    refine cr_ialdk X 7 (by decide) (by decide) ((cr_n3 E (cr_g9 E)).at rfl rfl) dL_turbines_246 ?_
    refine cr_icmp_ge X 292 dL_turbines_247 rfl ?_ ?_
    · refine cr_iconst X (1 : Int32) (by decide) dL_turbines_292 ?_
      exact cr_zret X true rfl rfl rfl dL_turbines_293
    · refine cr_aload_n X 0 rfl dL_turbines_250 ?_
      refine cr_iload X 3 rfl dL_turbines_251 ?_
      refine cr_iconst X (0 : Int32) (by decide) dL_turbines_253 ?_
      refine cr_callV X (As := [.int x7, .int ((0 : Int32))]) (rest := []) (c_X8_blade Γ.2.1 E hEK S x7 ((0 : Int32))) ((cr_b0 E).at rfl rfl) rfl 2 gL_turbines_X8_blade rfl rfl rfl (by decide +kernel) ⟨Nat.le_of_ble_eq_true rfl, Nat.le_of_ble_eq_true rfl⟩ (by decide) rfl rfl (Nat.le_of_ble_eq_true rfl) dL_turbines_254 (fun r254_1 => ?_)
      show cr_P Γ E 10 _ 0 0 S 257 ([(0, .ref (E.2.1 8 0)), (2, .ref (E.2.1 9 1)), (6, .ref (E.2.1 9 3)), (7, .int x7)]) ([.int r254_1]) _
      refine cr_aload_n X 1 rfl dL_turbines_257 ?_
      refine cr_iconst X (2 : Int32) (by decide) dL_turbines_258 ?_
      refine cr_iload X 3 rfl dL_turbines_259 ?_
      refine cr_imul X dL_turbines_261 ?_
      refine cr_iald X ((cr_n1 E (cr_g9 E)).at rfl rfl) dL_turbines_262 ?_
      refine cr_icmp_ne X 284 dL_turbines_263 rfl ?_ ?_
      · refine cr_iconst X (0 : Int32) (by decide) dL_turbines_284 ?_
        exact cr_zret X false rfl rfl rfl dL_turbines_285
      · refine cr_aload_n X 0 rfl dL_turbines_266 ?_
        refine cr_iload X 3 rfl dL_turbines_267 ?_
        refine cr_iconst X (1 : Int32) (by decide) dL_turbines_269 ?_
        refine cr_callV X (As := [.int x7, .int ((1 : Int32))]) (rest := []) (c_X8_blade Γ.2.1 E hEK S x7 ((1 : Int32))) ((cr_b0 E).at rfl rfl) rfl 2 gL_turbines_X8_blade rfl rfl rfl (by decide +kernel) ⟨Nat.le_of_ble_eq_true rfl, Nat.le_of_ble_eq_true rfl⟩ (by decide) rfl rfl (Nat.le_of_ble_eq_true rfl) dL_turbines_270 (fun r270_2 => ?_)
        show cr_P Γ E 10 _ 0 0 S 273 ([(0, .ref (E.2.1 8 0)), (2, .ref (E.2.1 9 1)), (6, .ref (E.2.1 9 3)), (7, .int x7)]) ([.int r270_2]) _
        refine cr_aload_n X 1 rfl dL_turbines_273 ?_
        refine cr_iconst X (2 : Int32) (by decide) dL_turbines_274 ?_
        refine cr_iload X 3 rfl dL_turbines_275 ?_
        refine cr_imul X dL_turbines_277 ?_
        refine cr_iconst X (1 : Int32) (by decide) dL_turbines_278 ?_
        refine cr_iadd X dL_turbines_279 ?_
        refine cr_iald X ((cr_n1 E (cr_g9 E)).at rfl rfl) dL_turbines_280 ?_
        refine cr_icmp_eq X 286 dL_turbines_281 rfl ?_ ?_
        · refine cr_iinc X (x7 + 1) (fun v286_3 => [(7, .int v286_3), (0, .ref (E.2.1 8 0)), (2, .ref (E.2.1 9 1)), (6, .ref (E.2.1 9 3))]) 3 rfl rfl (fun _ => rfl) (by decide) dL_turbines_286 (fun v286_3 => ?_)
          refine cr_goto X 240 dL_turbines_289 rfl ?_
          refine cr_sub (lv' := [(0, .ref (E.2.1 8 0)), (2, .ref (E.2.1 9 1)), (6, .ref (E.2.1 9 3)), (7, .int v286_3)]) [1, 2, 3, 0] rfl ?_
          exact ih v286_3
        · refine cr_iconst X (0 : Int32) (by decide) dL_turbines_284 ?_
          exact cr_zret X false rfl rfl rfl dL_turbines_285
set_option maxHeartbeats 4000000 in
set_option maxRecDepth 100000 in
theorem b_L_turbines_70 {Γ : cr_C} {E : cr_E} (X : cr_X Γ E cL_turbines 10 RL wsL_turbines rm_L_turbines (some .boolean)) (S : cr_S) (k3 : Int32 → Option Bool) (hk3 : ∀ (x7 : Int32), cr_P Γ E 10 (cr_F Γ E (cr_vB S)) 0 0 S 3 ([(0, .ref (E.2.1 8 0)), (1, .ref (E.2.1 9 0)), (2, .ref (E.2.1 9 1)), (3, .ref (E.2.1 9 2)), (4, .ref (E.2.1 11 0)), (5, .ref (E.2.1 11 1)), (6, .ref (E.2.1 9 3)), (7, .int x7)]) [] (k3 x7)) : ∀ (n : Nat) (x7 : Int32) (x8 : Int32) (x9 : Int32), cr_P Γ E 10 (cr_F Γ E (cr_vB S)) 0 0 S 70 ([(0, .ref (E.2.1 8 0)), (1, .ref (E.2.1 9 0)), (2, .ref (E.2.1 9 1)), (3, .ref (E.2.1 9 2)), (4, .ref (E.2.1 11 0)), (5, .ref (E.2.1 11 1)), (6, .ref (E.2.1 9 3)), (7, .int x7), (8, .int x8), (9, .int x9)]) ([]) (s_L_turbines_70 S k3 n x7 x8 x9) := by
  have hEK := X.2.2.2.2.2.2.1
  intro n
  induction n with
  | zero => intro x7 x8 x9; exact cr_none
  | succ n ih =>
    intro x7 x8 x9
    rw [s_L_turbines_70]
    refine cr_iload X 9 rfl dL_turbines_70 ?_
    refine cr_iconst X (5 : Int32) (by decide) dL_turbines_72 ?_
    refine cr_icmp_ge X 105 dL_turbines_73 rfl ?_ ?_
    · refine cr_aload_n X 0 rfl dL_turbines_105 ?_
      refine cr_iload X 7 rfl dL_turbines_106 ?_
      refine cr_iconst X (5 : Int32) (by decide) dL_turbines_108 ?_
      refine cr_callV X (As := [.int x7, .int ((5 : Int32))]) (rest := []) (c_X8_turbine Γ.2.1 E hEK S x7 ((5 : Int32))) ((cr_b0 E).at rfl rfl) rfl 2 gL_turbines_X8_turbine rfl rfl rfl (by decide +kernel) ⟨Nat.le_of_ble_eq_true rfl, Nat.le_of_ble_eq_true rfl⟩ (by decide) rfl rfl (Nat.le_of_ble_eq_true rfl) dL_turbines_109 (fun r109_10 => ?_)
      show cr_P Γ E 10 _ 0 0 S 112 ([(0, .ref (E.2.1 8 0)), (1, .ref (E.2.1 9 0)), (2, .ref (E.2.1 9 1)), (3, .ref (E.2.1 9 2)), (4, .ref (E.2.1 11 0)), (5, .ref (E.2.1 11 1)), (6, .ref (E.2.1 9 3)), (7, .int x7), (8, .int x8), (9, .int x9)]) ([.int r109_10]) _
      refine cr_aload X 5 rfl dL_turbines_112 ?_
      refine cr_iconst X (0 : Int32) (by decide) dL_turbines_114 ?_
      refine cr_ialdk X 0 (by decide) (by decide) ((cr_k1 E).at rfl rfl) dL_turbines_115 ?_
      refine cr_aload_n X 1 rfl dL_turbines_116 ?_
      refine cr_bipush X (7 : Int32) (by decide) dL_turbines_117 ?_
      refine cr_iload X 7 rfl dL_turbines_119 ?_
      refine cr_imul X dL_turbines_121 ?_
      refine cr_iconst X (1 : Int32) (by decide) dL_turbines_122 ?_
      refine cr_iadd X dL_turbines_123 ?_
      refine cr_iald X ((cr_n0 E (cr_g9 E)).at rfl rfl) dL_turbines_124 ?_
      refine cr_bipush X (25 : Int32) (by decide) dL_turbines_125 ?_
      refine cr_idivk X (by decide) dL_turbines_127 ?_
      refine cr_isub X dL_turbines_128 ?_
      refine cr_icmp_ne X 229 dL_turbines_129 rfl ?_ ?_
      · refine cr_iconst X (0 : Int32) (by decide) dL_turbines_229 ?_
        exact cr_zret X false rfl rfl rfl dL_turbines_230
      · refine cr_aload_n X 0 rfl dL_turbines_132 ?_
        refine cr_iload X 7 rfl dL_turbines_133 ?_
        refine cr_bipush X (6 : Int32) (by decide) dL_turbines_135 ?_
        refine cr_callV X (As := [.int x7, .int ((6 : Int32))]) (rest := []) (c_X8_turbine Γ.2.1 E hEK S x7 ((6 : Int32))) ((cr_b0 E).at rfl rfl) rfl 2 gL_turbines_X8_turbine rfl rfl rfl (by decide +kernel) ⟨Nat.le_of_ble_eq_true rfl, Nat.le_of_ble_eq_true rfl⟩ (by decide) rfl rfl (Nat.le_of_ble_eq_true rfl) dL_turbines_137 (fun r137_11 => ?_)
        show cr_P Γ E 10 _ 0 0 S 140 ([(0, .ref (E.2.1 8 0)), (1, .ref (E.2.1 9 0)), (2, .ref (E.2.1 9 1)), (3, .ref (E.2.1 9 2)), (4, .ref (E.2.1 11 0)), (5, .ref (E.2.1 11 1)), (6, .ref (E.2.1 9 3)), (7, .int x7), (8, .int x8), (9, .int x9)]) ([.int r137_11]) _
        refine cr_iload X 7 rfl dL_turbines_140 ?_
        refine cr_aload_n X 3 rfl dL_turbines_142 ?_
        refine cr_callS X (As := [.int x7, .ref (E.2.1 9 2)]) (rest := [.int r137_11]) (c_L_spot_S Γ.2.1 E hEK S (cr_g9 E) x7) 2 gL_turbines_L_spot rfl rfl rfl (by decide +kernel) ⟨Nat.le_of_ble_eq_true rfl, Nat.le_of_ble_eq_true rfl⟩ (by decide) rfl rfl (Nat.le_of_ble_eq_true rfl) dL_turbines_143 (fun r143_12 => ?_)
        show cr_P Γ E 10 _ 0 0 S 146 ([(0, .ref (E.2.1 8 0)), (1, .ref (E.2.1 9 0)), (2, .ref (E.2.1 9 1)), (3, .ref (E.2.1 9 2)), (4, .ref (E.2.1 11 0)), (5, .ref (E.2.1 11 1)), (6, .ref (E.2.1 9 3)), (7, .int x7), (8, .int x8), (9, .int x9)]) ([.int r143_12, .int r137_11]) _
        refine cr_icmp_ne X 229 dL_turbines_146 rfl ?_ ?_
        · refine cr_iconst X (0 : Int32) (by decide) dL_turbines_229 ?_
          exact cr_zret X false rfl rfl rfl dL_turbines_230
        · refine cr_aload_n X 0 rfl dL_turbines_149 ?_
          refine cr_iload X 7 rfl dL_turbines_150 ?_
          refine cr_bipush X (7 : Int32) (by decide) dL_turbines_152 ?_
          refine cr_callV X (As := [.int x7, .int ((7 : Int32))]) (rest := []) (c_X8_turbine Γ.2.1 E hEK S x7 ((7 : Int32))) ((cr_b0 E).at rfl rfl) rfl 2 gL_turbines_X8_turbine rfl rfl rfl (by decide +kernel) ⟨Nat.le_of_ble_eq_true rfl, Nat.le_of_ble_eq_true rfl⟩ (by decide) rfl rfl (Nat.le_of_ble_eq_true rfl) dL_turbines_154 (fun r154_13 => ?_)
          show cr_P Γ E 10 _ 0 0 S 157 ([(0, .ref (E.2.1 8 0)), (1, .ref (E.2.1 9 0)), (2, .ref (E.2.1 9 1)), (3, .ref (E.2.1 9 2)), (4, .ref (E.2.1 11 0)), (5, .ref (E.2.1 11 1)), (6, .ref (E.2.1 9 3)), (7, .int x7), (8, .int x8), (9, .int x9)]) ([.int r154_13]) _
          refine cr_iload X 8 rfl dL_turbines_157 ?_
          refine cr_icmp_ne X 229 dL_turbines_159 rfl ?_ ?_
          · refine cr_iconst X (0 : Int32) (by decide) dL_turbines_229 ?_
            exact cr_zret X false rfl rfl rfl dL_turbines_230
          · refine cr_aload_n X 0 rfl dL_turbines_162 ?_
            refine cr_iload X 7 rfl dL_turbines_163 ?_
            refine cr_bipush X (8 : Int32) (by decide) dL_turbines_165 ?_
            refine cr_callV X (As := [.int x7, .int ((8 : Int32))]) (rest := []) (c_X8_turbine Γ.2.1 E hEK S x7 ((8 : Int32))) ((cr_b0 E).at rfl rfl) rfl 2 gL_turbines_X8_turbine rfl rfl rfl (by decide +kernel) ⟨Nat.le_of_ble_eq_true rfl, Nat.le_of_ble_eq_true rfl⟩ (by decide) rfl rfl (Nat.le_of_ble_eq_true rfl) dL_turbines_167 (fun r167_14 => ?_)
            show cr_P Γ E 10 _ 0 0 S 170 ([(0, .ref (E.2.1 8 0)), (1, .ref (E.2.1 9 0)), (2, .ref (E.2.1 9 1)), (3, .ref (E.2.1 9 2)), (4, .ref (E.2.1 11 0)), (5, .ref (E.2.1 11 1)), (6, .ref (E.2.1 9 3)), (7, .int x7), (8, .int x8), (9, .int x9)]) ([.int r167_14]) _
            refine cr_aload_n X 1 rfl dL_turbines_170 ?_
            refine cr_bipush X (7 : Int32) (by decide) dL_turbines_171 ?_
            refine cr_iload X 7 rfl dL_turbines_173 ?_
            refine cr_imul X dL_turbines_175 ?_
            refine cr_iconst X (5 : Int32) (by decide) dL_turbines_176 ?_
            refine cr_iadd X dL_turbines_177 ?_
            refine cr_iald X ((cr_n0 E (cr_g9 E)).at rfl rfl) dL_turbines_178 ?_
            refine cr_icmp_ne X 229 dL_turbines_179 rfl ?_ ?_
            · refine cr_iconst X (0 : Int32) (by decide) dL_turbines_229 ?_
              exact cr_zret X false rfl rfl rfl dL_turbines_230
            · refine cr_aload_n X 0 rfl dL_turbines_182 ?_
              refine cr_iload X 7 rfl dL_turbines_183 ?_
              refine cr_bipush X (9 : Int32) (by decide) dL_turbines_185 ?_
              refine cr_callV X (As := [.int x7, .int ((9 : Int32))]) (rest := []) (c_X8_turbine Γ.2.1 E hEK S x7 ((9 : Int32))) ((cr_b0 E).at rfl rfl) rfl 2 gL_turbines_X8_turbine rfl rfl rfl (by decide +kernel) ⟨Nat.le_of_ble_eq_true rfl, Nat.le_of_ble_eq_true rfl⟩ (by decide) rfl rfl (Nat.le_of_ble_eq_true rfl) dL_turbines_187 (fun r187_15 => ?_)
              show cr_P Γ E 10 _ 0 0 S 190 ([(0, .ref (E.2.1 8 0)), (1, .ref (E.2.1 9 0)), (2, .ref (E.2.1 9 1)), (3, .ref (E.2.1 9 2)), (4, .ref (E.2.1 11 0)), (5, .ref (E.2.1 11 1)), (6, .ref (E.2.1 9 3)), (7, .int x7), (8, .int x8), (9, .int x9)]) ([.int r187_15]) _
              refine cr_aload_n X 1 rfl dL_turbines_190 ?_
              refine cr_bipush X (7 : Int32) (by decide) dL_turbines_191 ?_
              refine cr_iload X 7 rfl dL_turbines_193 ?_
              refine cr_imul X dL_turbines_195 ?_
              refine cr_bipush X (6 : Int32) (by decide) dL_turbines_196 ?_
              refine cr_iadd X dL_turbines_198 ?_
              refine cr_iald X ((cr_n0 E (cr_g9 E)).at rfl rfl) dL_turbines_199 ?_
              refine cr_icmp_ne X 229 dL_turbines_200 rfl ?_ ?_
              · refine cr_iconst X (0 : Int32) (by decide) dL_turbines_229 ?_
                exact cr_zret X false rfl rfl rfl dL_turbines_230
              · refine cr_aload_n X 0 rfl dL_turbines_203 ?_
                refine cr_iload X 7 rfl dL_turbines_204 ?_
                refine cr_bipush X (10 : Int32) (by decide) dL_turbines_206 ?_
                refine cr_callV X (As := [.int x7, .int ((10 : Int32))]) (rest := []) (c_X8_turbine Γ.2.1 E hEK S x7 ((10 : Int32))) ((cr_b0 E).at rfl rfl) rfl 2 gL_turbines_X8_turbine rfl rfl rfl (by decide +kernel) ⟨Nat.le_of_ble_eq_true rfl, Nat.le_of_ble_eq_true rfl⟩ (by decide) rfl rfl (Nat.le_of_ble_eq_true rfl) dL_turbines_208 (fun r208_16 => ?_)
                show cr_P Γ E 10 _ 0 0 S 211 ([(0, .ref (E.2.1 8 0)), (1, .ref (E.2.1 9 0)), (2, .ref (E.2.1 9 1)), (3, .ref (E.2.1 9 2)), (4, .ref (E.2.1 11 0)), (5, .ref (E.2.1 11 1)), (6, .ref (E.2.1 9 3)), (7, .int x7), (8, .int x8), (9, .int x9)]) ([.int r208_16]) _
                refine cr_iload X 7 rfl dL_turbines_211 ?_
                refine cr_aload X 6 rfl dL_turbines_213 ?_
                refine cr_iconst X (5 : Int32) (by decide) dL_turbines_215 ?_
                refine cr_ialdk X 5 (by decide) (by decide) ((cr_n3 E (cr_g9 E)).at rfl rfl) dL_turbines_216 ?_
                refine cr_aload X 4 rfl dL_turbines_217 ?_
                refine cr_callS X (As := [.int (((S.1 9 3) 5)), .ref (E.2.1 11 0)]) (rest := [.int x7, .int r208_16]) (c_L_wind_S Γ.2.1 E hEK S (cr_g9 E) (((S.1 9 3) 5))) 2 gL_turbines_L_wind rfl rfl rfl (by decide +kernel) ⟨Nat.le_of_ble_eq_true rfl, Nat.le_of_ble_eq_true rfl⟩ (by decide) rfl rfl (Nat.le_of_ble_eq_true rfl) dL_turbines_219 (fun r219_17 => ?_)
                show cr_P Γ E 10 _ 0 0 S 222 ([(0, .ref (E.2.1 8 0)), (1, .ref (E.2.1 9 0)), (2, .ref (E.2.1 9 1)), (3, .ref (E.2.1 9 2)), (4, .ref (E.2.1 11 0)), (5, .ref (E.2.1 11 1)), (6, .ref (E.2.1 9 3)), (7, .int x7), (8, .int x8), (9, .int x9)]) ([.int r219_17, .int x7, .int r208_16]) _
                refine cr_aload_n X 1 rfl dL_turbines_222 ?_
                refine cr_callS X (As := [.int x7, .int r219_17, .ref (E.2.1 9 0)]) (rest := [.int r208_16]) (c_L_power_S Γ.2.1 E hEK S (cr_g9 E) x7 r219_17) 3 gL_turbines_L_power rfl rfl rfl (by decide +kernel) ⟨Nat.le_of_ble_eq_true rfl, Nat.le_of_ble_eq_true rfl⟩ (by decide) rfl rfl (Nat.le_of_ble_eq_true rfl) dL_turbines_223 (fun r223_18 => ?_)
                show cr_P Γ E 10 _ 0 0 S 226 ([(0, .ref (E.2.1 8 0)), (1, .ref (E.2.1 9 0)), (2, .ref (E.2.1 9 1)), (3, .ref (E.2.1 9 2)), (4, .ref (E.2.1 11 0)), (5, .ref (E.2.1 11 1)), (6, .ref (E.2.1 9 3)), (7, .int x7), (8, .int x8), (9, .int x9)]) ([.int r223_18, .int r208_16]) _
                refine cr_icmp_eq X 231 dL_turbines_226 rfl ?_ ?_
                · refine cr_iinc X (x7 + 1) (fun v231_19 => [(7, .int v231_19), (0, .ref (E.2.1 8 0)), (1, .ref (E.2.1 9 0)), (2, .ref (E.2.1 9 1)), (3, .ref (E.2.1 9 2)), (4, .ref (E.2.1 11 0)), (5, .ref (E.2.1 11 1)), (6, .ref (E.2.1 9 3)), (8, .int x8), (9, .int x9)]) 7 rfl rfl (fun _ => rfl) (by decide) dL_turbines_231 (fun v231_19 => ?_)
                  refine cr_goto X 3 dL_turbines_234 rfl ?_
                  refine cr_sub (lv' := [(0, .ref (E.2.1 8 0)), (1, .ref (E.2.1 9 0)), (2, .ref (E.2.1 9 1)), (3, .ref (E.2.1 9 2)), (4, .ref (E.2.1 11 0)), (5, .ref (E.2.1 11 1)), (6, .ref (E.2.1 9 3)), (7, .int v231_19)]) [1, 2, 3, 4, 5, 6, 7, 0] rfl ?_
                  exact hk3 v231_19
                · refine cr_iconst X (0 : Int32) (by decide) dL_turbines_229 ?_
                  exact cr_zret X false rfl rfl rfl dL_turbines_230
    · refine cr_aload_n X 0 rfl dL_turbines_76 ?_
      refine cr_iload X 7 rfl dL_turbines_77 ?_
      refine cr_iload X 9 rfl dL_turbines_79 ?_
      refine cr_callV X (As := [.int x7, .int x9]) (rest := []) (c_X8_turbine Γ.2.1 E hEK S x7 x9) ((cr_b0 E).at rfl rfl) rfl 2 gL_turbines_X8_turbine rfl rfl rfl (by decide +kernel) ⟨Nat.le_of_ble_eq_true rfl, Nat.le_of_ble_eq_true rfl⟩ (by decide) rfl rfl (Nat.le_of_ble_eq_true rfl) dL_turbines_81 (fun r81_20 => ?_)
      show cr_P Γ E 10 _ 0 0 S 84 ([(0, .ref (E.2.1 8 0)), (1, .ref (E.2.1 9 0)), (2, .ref (E.2.1 9 1)), (3, .ref (E.2.1 9 2)), (4, .ref (E.2.1 11 0)), (5, .ref (E.2.1 11 1)), (6, .ref (E.2.1 9 3)), (7, .int x7), (8, .int x8), (9, .int x9)]) ([.int r81_20]) _
      refine cr_aload_n X 1 rfl dL_turbines_84 ?_
      refine cr_bipush X (7 : Int32) (by decide) dL_turbines_85 ?_
      refine cr_iload X 7 rfl dL_turbines_87 ?_
      refine cr_imul X dL_turbines_89 ?_
      refine cr_iload X 9 rfl dL_turbines_90 ?_
      refine cr_iadd X dL_turbines_92 ?_
      refine cr_iald X ((cr_n0 E (cr_g9 E)).at rfl rfl) dL_turbines_93 ?_
      refine cr_icmp_eq X 99 dL_turbines_94 rfl ?_ ?_
      · refine cr_iinc X (x9 + 1) (fun v99_21 => [(9, .int v99_21), (0, .ref (E.2.1 8 0)), (1, .ref (E.2.1 9 0)), (2, .ref (E.2.1 9 1)), (3, .ref (E.2.1 9 2)), (4, .ref (E.2.1 11 0)), (5, .ref (E.2.1 11 1)), (6, .ref (E.2.1 9 3)), (7, .int x7), (8, .int x8)]) 9 rfl rfl (fun _ => rfl) (by decide) dL_turbines_99 (fun v99_21 => ?_)
        refine cr_goto X 70 dL_turbines_102 rfl ?_
        refine cr_sub (lv' := [(0, .ref (E.2.1 8 0)), (1, .ref (E.2.1 9 0)), (2, .ref (E.2.1 9 1)), (3, .ref (E.2.1 9 2)), (4, .ref (E.2.1 11 0)), (5, .ref (E.2.1 11 1)), (6, .ref (E.2.1 9 3)), (7, .int x7), (8, .int x8), (9, .int v99_21)]) [1, 2, 3, 4, 5, 6, 7, 8, 9, 0] rfl ?_
        exact ih x7 x8 v99_21
      · refine cr_iconst X (0 : Int32) (by decide) dL_turbines_97 ?_
        exact cr_zret X false rfl rfl rfl dL_turbines_98
set_option maxHeartbeats 4000000 in
set_option maxRecDepth 100000 in
theorem b_L_turbines_19 {Γ : cr_C} {E : cr_E} (X : cr_X Γ E cL_turbines 10 RL wsL_turbines rm_L_turbines (some .boolean)) (S : cr_S) (k3 : Int32 → Option Bool) (hk3 : ∀ (x7 : Int32), cr_P Γ E 10 (cr_F Γ E (cr_vB S)) 0 0 S 3 ([(0, .ref (E.2.1 8 0)), (1, .ref (E.2.1 9 0)), (2, .ref (E.2.1 9 1)), (3, .ref (E.2.1 9 2)), (4, .ref (E.2.1 11 0)), (5, .ref (E.2.1 11 1)), (6, .ref (E.2.1 9 3)), (7, .int x7)]) [] (k3 x7)) : ∀ (n : Nat) (x7 : Int32) (x8 : Int32) (x9 : Int32), cr_P Γ E 10 (cr_F Γ E (cr_vB S)) 0 0 S 19 ([(0, .ref (E.2.1 8 0)), (1, .ref (E.2.1 9 0)), (2, .ref (E.2.1 9 1)), (3, .ref (E.2.1 9 2)), (4, .ref (E.2.1 11 0)), (5, .ref (E.2.1 11 1)), (6, .ref (E.2.1 9 3)), (7, .int x7), (8, .int x8), (9, .int x9)]) ([]) (s_L_turbines_19 S k3 n x7 x8 x9) := by
  have hEK := X.2.2.2.2.2.2.1
  intro n
  induction n with
  | zero => intro x7 x8 x9; exact cr_none
  | succ n ih =>
    intro x7 x8 x9
    rw [s_L_turbines_19]
    refine cr_iload X 9 rfl dL_turbines_19 ?_
    refine cr_aload X 6 rfl dL_turbines_21 ?_
    refine cr_bipush X (7 : Int32) (by decide) dL_turbines_23 ?_
    refine cr_ialdk X 7 (by decide) (by decide) ((cr_n3 E (cr_g9 E)).at rfl rfl) dL_turbines_25 ?_
    refine cr_icmp_ge X 67 dL_turbines_26 rfl ?_ ?_
    · refine cr_iconst X (0 : Int32) (by decide) dL_turbines_67 ?_
      refine cr_istore X ([(9, .int ((0 : Int32))), (0, .ref (E.2.1 8 0)), (1, .ref (E.2.1 9 0)), (2, .ref (E.2.1 9 1)), (3, .ref (E.2.1 9 2)), (4, .ref (E.2.1 11 0)), (5, .ref (E.2.1 11 1)), (6, .ref (E.2.1 9 3)), (7, .int x7), (8, .int x8)]) rfl (by decide) dL_turbines_68 ?_
      refine cr_sub (lv' := [(0, .ref (E.2.1 8 0)), (1, .ref (E.2.1 9 0)), (2, .ref (E.2.1 9 1)), (3, .ref (E.2.1 9 2)), (4, .ref (E.2.1 11 0)), (5, .ref (E.2.1 11 1)), (6, .ref (E.2.1 9 3)), (7, .int x7), (8, .int x8), (9, .int ((0 : Int32)))]) [1, 2, 3, 4, 5, 6, 7, 8, 9, 0] rfl ?_
      exact b_L_turbines_70 X S k3 hk3 1200 x7 x8 ((0 : Int32))
    · refine cr_iload X 8 rfl dL_turbines_29 ?_
      refine cr_aload_n X 2 rfl dL_turbines_31 ?_
      refine cr_iconst X (2 : Int32) (by decide) dL_turbines_32 ?_
      refine cr_iload X 9 rfl dL_turbines_33 ?_
      refine cr_imul X dL_turbines_35 ?_
      refine cr_iald X ((cr_n1 E (cr_g9 E)).at rfl rfl) dL_turbines_36 ?_
      refine cr_iload X 7 rfl dL_turbines_37 ?_
      refine cr_icmp_ne X 57 dL_turbines_39 rfl ?_ ?_
      · refine cr_iconst X (0 : Int32) (by decide) dL_turbines_57 ?_
        refine cr_iadd X dL_turbines_58 ?_
        refine cr_istoreb X (fun v59_4 => [(8, .int v59_4), (0, .ref (E.2.1 8 0)), (1, .ref (E.2.1 9 0)), (2, .ref (E.2.1 9 1)), (3, .ref (E.2.1 9 2)), (4, .ref (E.2.1 11 0)), (5, .ref (E.2.1 11 1)), (6, .ref (E.2.1 9 3)), (7, .int x7), (9, .int x9)]) (fun _ => rfl) (by decide) dL_turbines_59 (fun v59_4 => ?_)
        refine cr_iinc X (x9 + 1) (fun v61_5 => [(9, .int v61_5), (8, .int v59_4), (0, .ref (E.2.1 8 0)), (1, .ref (E.2.1 9 0)), (2, .ref (E.2.1 9 1)), (3, .ref (E.2.1 9 2)), (4, .ref (E.2.1 11 0)), (5, .ref (E.2.1 11 1)), (6, .ref (E.2.1 9 3)), (7, .int x7)]) 9 rfl rfl (fun _ => rfl) (by decide) dL_turbines_61 (fun v61_5 => ?_)
        refine cr_goto X 19 dL_turbines_64 rfl ?_
        refine cr_sub (lv' := [(0, .ref (E.2.1 8 0)), (1, .ref (E.2.1 9 0)), (2, .ref (E.2.1 9 1)), (3, .ref (E.2.1 9 2)), (4, .ref (E.2.1 11 0)), (5, .ref (E.2.1 11 1)), (6, .ref (E.2.1 9 3)), (7, .int x7), (8, .int v59_4), (9, .int v61_5)]) [2, 3, 4, 5, 6, 7, 8, 9, 1, 0] rfl ?_
        exact ih x7 v59_4 v61_5
      · refine cr_aload_n X 2 rfl dL_turbines_42 ?_
        refine cr_iconst X (2 : Int32) (by decide) dL_turbines_43 ?_
        refine cr_iload X 9 rfl dL_turbines_44 ?_
        refine cr_imul X dL_turbines_46 ?_
        refine cr_iconst X (1 : Int32) (by decide) dL_turbines_47 ?_
        refine cr_iadd X dL_turbines_48 ?_
        refine cr_iald X ((cr_n1 E (cr_g9 E)).at rfl rfl) dL_turbines_49 ?_
        refine cr_if_ne X 57 dL_turbines_50 rfl ?_ ?_
        · refine cr_iconst X (0 : Int32) (by decide) dL_turbines_57 ?_
          refine cr_iadd X dL_turbines_58 ?_
          refine cr_istoreb X (fun v59_6 => [(8, .int v59_6), (0, .ref (E.2.1 8 0)), (1, .ref (E.2.1 9 0)), (2, .ref (E.2.1 9 1)), (3, .ref (E.2.1 9 2)), (4, .ref (E.2.1 11 0)), (5, .ref (E.2.1 11 1)), (6, .ref (E.2.1 9 3)), (7, .int x7), (9, .int x9)]) (fun _ => rfl) (by decide) dL_turbines_59 (fun v59_6 => ?_)
          refine cr_iinc X (x9 + 1) (fun v61_7 => [(9, .int v61_7), (8, .int v59_6), (0, .ref (E.2.1 8 0)), (1, .ref (E.2.1 9 0)), (2, .ref (E.2.1 9 1)), (3, .ref (E.2.1 9 2)), (4, .ref (E.2.1 11 0)), (5, .ref (E.2.1 11 1)), (6, .ref (E.2.1 9 3)), (7, .int x7)]) 9 rfl rfl (fun _ => rfl) (by decide) dL_turbines_61 (fun v61_7 => ?_)
          refine cr_goto X 19 dL_turbines_64 rfl ?_
          refine cr_sub (lv' := [(0, .ref (E.2.1 8 0)), (1, .ref (E.2.1 9 0)), (2, .ref (E.2.1 9 1)), (3, .ref (E.2.1 9 2)), (4, .ref (E.2.1 11 0)), (5, .ref (E.2.1 11 1)), (6, .ref (E.2.1 9 3)), (7, .int x7), (8, .int v59_6), (9, .int v61_7)]) [2, 3, 4, 5, 6, 7, 8, 9, 1, 0] rfl ?_
          exact ih x7 v59_6 v61_7
        · refine cr_iconst X (1 : Int32) (by decide) dL_turbines_53 ?_
          refine cr_goto X 58 dL_turbines_54 rfl ?_
          refine cr_iadd X dL_turbines_58 ?_
          refine cr_istoreb X (fun v59_8 => [(8, .int v59_8), (0, .ref (E.2.1 8 0)), (1, .ref (E.2.1 9 0)), (2, .ref (E.2.1 9 1)), (3, .ref (E.2.1 9 2)), (4, .ref (E.2.1 11 0)), (5, .ref (E.2.1 11 1)), (6, .ref (E.2.1 9 3)), (7, .int x7), (9, .int x9)]) (fun _ => rfl) (by decide) dL_turbines_59 (fun v59_8 => ?_)
          refine cr_iinc X (x9 + 1) (fun v61_9 => [(9, .int v61_9), (8, .int v59_8), (0, .ref (E.2.1 8 0)), (1, .ref (E.2.1 9 0)), (2, .ref (E.2.1 9 1)), (3, .ref (E.2.1 9 2)), (4, .ref (E.2.1 11 0)), (5, .ref (E.2.1 11 1)), (6, .ref (E.2.1 9 3)), (7, .int x7)]) 9 rfl rfl (fun _ => rfl) (by decide) dL_turbines_61 (fun v61_9 => ?_)
          refine cr_goto X 19 dL_turbines_64 rfl ?_
          refine cr_sub (lv' := [(0, .ref (E.2.1 8 0)), (1, .ref (E.2.1 9 0)), (2, .ref (E.2.1 9 1)), (3, .ref (E.2.1 9 2)), (4, .ref (E.2.1 11 0)), (5, .ref (E.2.1 11 1)), (6, .ref (E.2.1 9 3)), (7, .int x7), (8, .int v59_8), (9, .int v61_9)]) [2, 3, 4, 5, 6, 7, 8, 9, 1, 0] rfl ?_
          exact ih x7 v59_8 v61_9
set_option maxHeartbeats 4000000 in
set_option maxRecDepth 100000 in
theorem b_L_turbines_3 {Γ : cr_C} {E : cr_E} (X : cr_X Γ E cL_turbines 10 RL wsL_turbines rm_L_turbines (some .boolean)) (S : cr_S) : ∀ (n : Nat) (x7 : Int32), cr_P Γ E 10 (cr_F Γ E (cr_vB S)) 0 0 S 3 ([(0, .ref (E.2.1 8 0)), (1, .ref (E.2.1 9 0)), (2, .ref (E.2.1 9 1)), (3, .ref (E.2.1 9 2)), (4, .ref (E.2.1 11 0)), (5, .ref (E.2.1 11 1)), (6, .ref (E.2.1 9 3)), (7, .int x7)]) ([]) (s_L_turbines_3 S n x7) := by
  have hEK := X.2.2.2.2.2.2.1
  intro n
  induction n with
  | zero => intro x7; exact cr_none
  | succ n ih =>
    intro x7
    rw [s_L_turbines_3]
    refine cr_iload X 7 rfl dL_turbines_3 ?_
    refine cr_aload X 6 rfl dL_turbines_5 ?_
    refine cr_bipush X (6 : Int32) (by decide) dL_turbines_7 ?_
    refine cr_ialdk X 6 (by decide) (by decide) ((cr_n3 E (cr_g9 E)).at rfl rfl) dL_turbines_9 ?_
    refine cr_icmp_ge X 237 dL_turbines_10 rfl ?_ ?_
    · refine cr_iconst X (0 : Int32) (by decide) dL_turbines_237 ?_
      refine cr_istore X ([(7, .int ((0 : Int32))), (0, .ref (E.2.1 8 0)), (1, .ref (E.2.1 9 0)), (2, .ref (E.2.1 9 1)), (3, .ref (E.2.1 9 2)), (4, .ref (E.2.1 11 0)), (5, .ref (E.2.1 11 1)), (6, .ref (E.2.1 9 3))]) rfl (by decide) dL_turbines_238 ?_
      refine cr_sub (lv' := [(0, .ref (E.2.1 8 0)), (2, .ref (E.2.1 9 1)), (6, .ref (E.2.1 9 3)), (7, .int ((0 : Int32)))]) [1, 3, 7, 0] rfl ?_
      exact b_L_turbines_240 X S 1200 ((0 : Int32))
    · refine cr_iconst X (0 : Int32) (by decide) dL_turbines_13 ?_
      refine cr_istore X ([(8, .int ((0 : Int32))), (0, .ref (E.2.1 8 0)), (1, .ref (E.2.1 9 0)), (2, .ref (E.2.1 9 1)), (3, .ref (E.2.1 9 2)), (4, .ref (E.2.1 11 0)), (5, .ref (E.2.1 11 1)), (6, .ref (E.2.1 9 3)), (7, .int x7)]) rfl (by decide) dL_turbines_14 ?_
      refine cr_iconst X (0 : Int32) (by decide) dL_turbines_16 ?_
      refine cr_istore X ([(9, .int ((0 : Int32))), (8, .int ((0 : Int32))), (0, .ref (E.2.1 8 0)), (1, .ref (E.2.1 9 0)), (2, .ref (E.2.1 9 1)), (3, .ref (E.2.1 9 2)), (4, .ref (E.2.1 11 0)), (5, .ref (E.2.1 11 1)), (6, .ref (E.2.1 9 3)), (7, .int x7)]) rfl (by decide) dL_turbines_17 ?_
      refine cr_sub (lv' := [(0, .ref (E.2.1 8 0)), (1, .ref (E.2.1 9 0)), (2, .ref (E.2.1 9 1)), (3, .ref (E.2.1 9 2)), (4, .ref (E.2.1 11 0)), (5, .ref (E.2.1 11 1)), (6, .ref (E.2.1 9 3)), (7, .int x7), (8, .int ((0 : Int32))), (9, .int ((0 : Int32)))]) [2, 3, 4, 5, 6, 7, 8, 9, 1, 0] rfl ?_
      exact b_L_turbines_19 X S (fun x7a => s_L_turbines_3 S n x7a) ih 1200 x7 ((0 : Int32)) ((0 : Int32))
set_option maxHeartbeats 4000000 in
set_option maxRecDepth 100000 in
theorem c_L_turbines (l : Launch) (E : cr_E) (hEK : cr_EK E) (S : cr_S) : cr_M l E yL_turbines wsL_turbines rm_L_turbines [.ref (E.2.1 8 0), .ref (E.2.1 9 0), .ref (E.2.1 9 1), .ref (E.2.1 9 2), .ref (E.2.1 11 0), .ref (E.2.1 11 1), .ref (E.2.1 9 3)] S (cr_vB S) (s_L_turbines S) := by
  refine cr_enter (cc := cL_turbines) (nL := 10) (rt := (some .boolean)) hEK (by decide) rfl (Nat.le_of_ble_eq_true rfl) (fun Γ hΓ X => ?_)
  subst hΓ
  have X : cr_X Γ E cL_turbines 10 RL wsL_turbines rm_L_turbines (some .boolean) := X
  unfold s_L_turbines
  show cr_P Γ E 10 _ 0 0 S 0 ([(0, .ref (E.2.1 8 0)), (1, .ref (E.2.1 9 0)), (2, .ref (E.2.1 9 1)), (3, .ref (E.2.1 9 2)), (4, .ref (E.2.1 11 0)), (5, .ref (E.2.1 11 1)), (6, .ref (E.2.1 9 3))]) [] _
  refine cr_iconst X (0 : Int32) (by decide) dL_turbines_0 ?_
  refine cr_istore X ([(7, .int ((0 : Int32))), (0, .ref (E.2.1 8 0)), (1, .ref (E.2.1 9 0)), (2, .ref (E.2.1 9 1)), (3, .ref (E.2.1 9 2)), (4, .ref (E.2.1 11 0)), (5, .ref (E.2.1 11 1)), (6, .ref (E.2.1 9 3))]) rfl (by decide) dL_turbines_1 ?_
  refine cr_sub (lv' := [(0, .ref (E.2.1 8 0)), (1, .ref (E.2.1 9 0)), (2, .ref (E.2.1 9 1)), (3, .ref (E.2.1 9 2)), (4, .ref (E.2.1 11 0)), (5, .ref (E.2.1 11 1)), (6, .ref (E.2.1 9 3)), (7, .int ((0 : Int32)))]) [1, 2, 3, 4, 5, 6, 7, 0] rfl ?_
  exact b_L_turbines_3 X S 1200 ((0 : Int32))
theorem k_L_told_102 : (Cond.constantFloat RL 78 (1090519040)) ∈ wsL_told := List.mem_of_getElem? (i := 102) (by rfl)
abbrev rm_L_told : Room := { frames := 5, cells := 0, slots := 0, locals := 119 }
set_option maxHeartbeats 4000000 in
set_option maxRecDepth 100000 in
theorem b_L_told_491 {Γ : cr_C} {E : cr_E} (X : cr_X Γ E cL_told 13 RL wsL_told rm_L_told (some .boolean)) (S : cr_S) (x10 : Int32) (y0 : UInt32) (y1 : UInt32) : cr_P Γ E 13 (cr_F Γ E (cr_vB S)) 0 0 S 491 ([(0, .ref (E.2.1 8 0)), (2, .ref (E.2.1 9 0)), (8, .ref (E.2.1 9 3)), (10, .int x10)]) ([.float y0, .float y1]) (s_L_told_491 S x10 y0 y1) := by
  have hEK := X.2.2.2.2.2.2.1
  unfold s_L_told_491
  refine cr_fcmp X dL_told_491 ?_
  refine cr_if_ne X 530 dL_told_492 rfl ?_ ?_
  · refine cr_iconst X (0 : Int32) (by decide) dL_told_530 ?_
    exact cr_zret X false rfl rfl rfl dL_told_531
  · refine cr_aload_n X 0 rfl dL_told_495 ?_
    refine cr_callV X (As := []) (rest := []) (c_X8_lostShare Γ.2.1 E hEK S) ((cr_b0 E).at rfl rfl) rfl 0 gL_told_X8_lostShare rfl rfl rfl (by decide +kernel) ⟨Nat.le_of_ble_eq_true rfl, Nat.le_of_ble_eq_true rfl⟩ (by decide) rfl rfl (Nat.le_of_ble_eq_true rfl) dL_told_496 (fun r496_37 => ?_)
    show cr_P Γ E 13 _ 0 0 S 499 ([(0, .ref (E.2.1 8 0)), (2, .ref (E.2.1 9 0)), (8, .ref (E.2.1 9 3)), (10, .int x10)]) ([.double r496_37]) _
    refine cr_iload X 3 rfl dL_told_499 ?_
    refine cr_if_ne X 508 dL_told_501 rfl ?_ ?_
    · refine cr_dconst1 X dL_told_508 ?_
      refine cr_iconst X (5 : Int32) (by decide) dL_told_509 ?_
      refine cr_aload_n X 1 rfl dL_told_510 ?_
      refine cr_aload X 2 rfl dL_told_511 ?_
      refine cr_callS X (As := [.int ((5 : Int32)), .ref (E.2.1 9 0), .ref (E.2.1 9 3)]) (rest := [.double FP.dconst1, .double r496_37]) (c_L_sum_S Γ.2.1 E hEK S (cr_g9 E) ((5 : Int32))) 3 gL_told_L_sum rfl rfl rfl (by decide +kernel) ⟨Nat.le_of_ble_eq_true rfl, Nat.le_of_ble_eq_true rfl⟩ (by decide) rfl rfl (Nat.le_of_ble_eq_true rfl) dL_told_513 (fun r513_38 => ?_)
      show cr_P Γ E 13 _ 0 0 S 516 ([(0, .ref (E.2.1 8 0)), (2, .ref (E.2.1 9 0)), (8, .ref (E.2.1 9 3)), (10, .int x10)]) ([.int r513_38, .double FP.dconst1, .double r496_37]) _
      refine cr_i2d X dL_told_516 ?_
      refine cr_dmul X dL_told_517 ?_
      refine cr_iload X 3 rfl dL_told_518 ?_
      refine cr_i2d X dL_told_520 ?_
      refine cr_ddiv X dL_told_521 ?_
      refine cr_dcmp X dL_told_522 ?_
      refine cr_if_ne X 530 dL_told_523 rfl ?_ ?_
      · refine cr_iconst X (0 : Int32) (by decide) dL_told_530 ?_
        exact cr_zret X false rfl rfl rfl dL_told_531
      · refine cr_iconst X (1 : Int32) (by decide) dL_told_526 ?_
        refine cr_goto X 531 dL_told_527 rfl ?_
        exact cr_zret X true rfl rfl rfl dL_told_531
    · refine cr_dconst0 X dL_told_504 ?_
      refine cr_goto X 522 dL_told_505 rfl ?_
      refine cr_dcmp X dL_told_522 ?_
      refine cr_if_ne X 530 dL_told_523 rfl ?_ ?_
      · refine cr_iconst X (0 : Int32) (by decide) dL_told_530 ?_
        exact cr_zret X false rfl rfl rfl dL_told_531
      · refine cr_iconst X (1 : Int32) (by decide) dL_told_526 ?_
        refine cr_goto X 531 dL_told_527 rfl ?_
        exact cr_zret X true rfl rfl rfl dL_told_531
set_option maxHeartbeats 4000000 in
set_option maxRecDepth 100000 in
theorem b_L_told_378 {Γ : cr_C} {E : cr_E} (X : cr_X Γ E cL_told 13 RL wsL_told rm_L_told (some .boolean)) (S : cr_S) : ∀ (n : Nat) (x1 : Int32) (x9 : Int32) (x10 : Int32), cr_P Γ E 13 (cr_F Γ E (cr_vB S)) 0 0 S 378 ([(0, .ref (E.2.1 8 0)), (1, .int x1), (2, .ref (E.2.1 9 0)), (5, .ref (E.2.1 11 0)), (6, .ref (E.2.1 11 1)), (7, .ref (E.2.1 11 2)), (8, .ref (E.2.1 9 3)), (9, .int x9), (10, .int x10)]) ([]) (s_L_told_378 S n x1 x9 x10) := by
  have hEK := X.2.2.2.2.2.2.1
  intro n
  induction n with
  | zero => intro x1 x9 x10; exact cr_none
  | succ n ih =>
    intro x1 x9 x10
    rw [s_L_told_378]
    refine cr_iload X 8 rfl dL_told_378 ?_
    refine cr_aload X 3 rfl dL_told_380 ?_
    refine cr_iconst X (0 : Int32) (by decide) dL_told_382 ?_
    refine cr_ialdk X 0 (by decide) (by decide) ((cr_k0 E).at rfl rfl) dL_told_383 ?_
    refine cr_icmp_gt X 403 dL_told_384 rfl ?_ ?_
    · refine cr_iconst X (5 : Int32) (by decide) dL_told_403 ?_
      refine cr_aload_n X 2 rfl dL_told_404 ?_
      refine cr_aload X 6 rfl dL_told_405 ?_
      refine cr_callS X (As := [.int ((5 : Int32)), .ref (E.2.1 9 0), .ref (E.2.1 9 3)]) (rest := []) (c_L_sum_S Γ.2.1 E hEK S (cr_g9 E) ((5 : Int32))) 3 gL_told_L_sum rfl rfl rfl (by decide +kernel) ⟨Nat.le_of_ble_eq_true rfl, Nat.le_of_ble_eq_true rfl⟩ (by decide) rfl rfl (Nat.le_of_ble_eq_true rfl) dL_told_407 (fun r407_27 => ?_)
      show cr_P Γ E 13 _ 0 0 S 410 ([(0, .ref (E.2.1 8 0)), (1, .int x1), (2, .ref (E.2.1 9 0)), (5, .ref (E.2.1 11 0)), (6, .ref (E.2.1 11 1)), (7, .ref (E.2.1 11 2)), (8, .ref (E.2.1 9 3)), (9, .int x9), (10, .int x10)]) ([.int r407_27]) _
      refine cr_bipush X (6 : Int32) (by decide) dL_told_410 ?_
      refine cr_aload_n X 2 rfl dL_told_412 ?_
      refine cr_aload X 6 rfl dL_told_413 ?_
      refine cr_callS X (As := [.int ((6 : Int32)), .ref (E.2.1 9 0), .ref (E.2.1 9 3)]) (rest := [.int r407_27]) (c_L_sum_S Γ.2.1 E hEK S (cr_g9 E) ((6 : Int32))) 3 gL_told_L_sum rfl rfl rfl (by decide +kernel) ⟨Nat.le_of_ble_eq_true rfl, Nat.le_of_ble_eq_true rfl⟩ (by decide) rfl rfl (Nat.le_of_ble_eq_true rfl) dL_told_415 (fun r415_28 => ?_)
      show cr_P Γ E 13 _ 0 0 S 418 ([(0, .ref (E.2.1 8 0)), (1, .int x1), (2, .ref (E.2.1 9 0)), (5, .ref (E.2.1 11 0)), (6, .ref (E.2.1 11 1)), (7, .ref (E.2.1 11 2)), (8, .ref (E.2.1 9 3)), (9, .int x9), (10, .int x10)]) ([.int r415_28, .int r407_27]) _
      refine cr_iadd X dL_told_418 ?_
      refine cr_istoreb X (fun v419_29 => [(10, .int v419_29), (0, .ref (E.2.1 8 0)), (1, .int x1), (2, .ref (E.2.1 9 0)), (5, .ref (E.2.1 11 0)), (6, .ref (E.2.1 11 1)), (7, .ref (E.2.1 11 2)), (8, .ref (E.2.1 9 3)), (9, .int x9)]) (fun _ => rfl) (by decide) dL_told_419 (fun v419_29 => ?_)
      refine cr_iload_n X 2 rfl dL_told_421 ?_
      refine cr_bipush X (100 : Int32) (by decide) dL_told_422 ?_
      refine cr_callS X (As := [.int x1, .int ((100 : Int32))]) (rest := []) (c_L_at Γ.2.1 E hEK S x1 ((100 : Int32))) 2 gL_told_L_at rfl rfl rfl (by decide +kernel) ⟨Nat.le_of_ble_eq_true rfl, Nat.le_of_ble_eq_true rfl⟩ (by decide) rfl rfl (Nat.le_of_ble_eq_true rfl) dL_told_424 (fun r424_30 => ?_)
      show cr_P Γ E 13 _ 0 0 S 427 ([(10, .int v419_29), (0, .ref (E.2.1 8 0)), (1, .int x1), (2, .ref (E.2.1 9 0)), (5, .ref (E.2.1 11 0)), (6, .ref (E.2.1 11 1)), (7, .ref (E.2.1 11 2)), (8, .ref (E.2.1 9 3)), (9, .int x9)]) ([.int r424_30]) _
      refine cr_istore X ([(11, .int r424_30), (10, .int v419_29), (0, .ref (E.2.1 8 0)), (1, .int x1), (2, .ref (E.2.1 9 0)), (5, .ref (E.2.1 11 0)), (6, .ref (E.2.1 11 1)), (7, .ref (E.2.1 11 2)), (8, .ref (E.2.1 9 3)), (9, .int x9)]) rfl (by decide) dL_told_427 ?_
      refine cr_iload_n X 3 rfl dL_told_429 ?_
      refine cr_bipush X (7 : Int32) (by decide) dL_told_430 ?_
      refine cr_ishr X dL_told_432 ?_
      refine cr_bipush X (100 : Int32) (by decide) dL_told_433 ?_
      refine cr_callS X (As := [.int ((x1 >>> ((7 : Int32) &&& 31))), .int ((100 : Int32))]) (rest := []) (c_L_at Γ.2.1 E hEK S ((x1 >>> ((7 : Int32) &&& 31))) ((100 : Int32))) 2 gL_told_L_at rfl rfl rfl (by decide +kernel) ⟨Nat.le_of_ble_eq_true rfl, Nat.le_of_ble_eq_true rfl⟩ (by decide) rfl rfl (Nat.le_of_ble_eq_true rfl) dL_told_435 (fun r435_31 => ?_)
      show cr_P Γ E 13 _ 0 0 S 438 ([(11, .int r424_30), (10, .int v419_29), (0, .ref (E.2.1 8 0)), (1, .int x1), (2, .ref (E.2.1 9 0)), (5, .ref (E.2.1 11 0)), (6, .ref (E.2.1 11 1)), (7, .ref (E.2.1 11 2)), (8, .ref (E.2.1 9 3)), (9, .int x9)]) ([.int r435_31]) _
      refine cr_istore X ([(12, .int r435_31), (11, .int r424_30), (10, .int v419_29), (0, .ref (E.2.1 8 0)), (1, .int x1), (2, .ref (E.2.1 9 0)), (5, .ref (E.2.1 11 0)), (6, .ref (E.2.1 11 1)), (7, .ref (E.2.1 11 2)), (8, .ref (E.2.1 9 3)), (9, .int x9)]) rfl (by decide) dL_told_438 ?_
      refine cr_aload_n X 3 rfl dL_told_440 ?_
      refine cr_iload X 1 rfl dL_told_441 ?_
      refine cr_iload X 0 rfl dL_told_443 ?_
      refine cr_callV X (As := [.int r424_30, .int r435_31]) (rest := []) (c_X8_way Γ.2.1 E hEK S r424_30 r435_31) ((cr_b0 E).at rfl rfl) rfl 2 gL_told_X8_way rfl rfl rfl (by decide +kernel) ⟨Nat.le_of_ble_eq_true rfl, Nat.le_of_ble_eq_true rfl⟩ (by decide) rfl rfl (Nat.le_of_ble_eq_true rfl) dL_told_445 (fun r445_32 => ?_)
      show cr_P Γ E 13 _ 0 0 S 448 ([(12, .int r435_31), (11, .int r424_30), (10, .int v419_29), (0, .ref (E.2.1 8 0)), (1, .int x1), (2, .ref (E.2.1 9 0)), (5, .ref (E.2.1 11 0)), (6, .ref (E.2.1 11 1)), (7, .ref (E.2.1 11 2)), (8, .ref (E.2.1 9 3)), (9, .int x9)]) ([.int r445_32]) _
      refine cr_iload X 1 rfl dL_told_448 ?_
      refine cr_iload X 0 rfl dL_told_450 ?_
      refine cr_aload X 7 rfl dL_told_452 ?_
      refine cr_aload X 8 rfl dL_told_454 ?_
      refine cr_aload X 9 rfl dL_told_456 ?_
      refine cr_callS X (As := [.int r424_30, .int r435_31, .ref (E.2.1 11 1), .ref (E.2.1 11 2), .ref (E.2.1 9 3)]) (rest := [.int r445_32]) (c_L_way_S Γ.2.1 E hEK S (cr_g9 E) r424_30 r435_31) 5 gL_told_L_way rfl rfl rfl (by decide +kernel) ⟨Nat.le_of_ble_eq_true rfl, Nat.le_of_ble_eq_true rfl⟩ (by decide) rfl rfl (Nat.le_of_ble_eq_true rfl) dL_told_458 (fun r458_33 => ?_)
      show cr_P Γ E 13 _ 0 0 S 461 ([(12, .int r435_31), (11, .int r424_30), (10, .int v419_29), (0, .ref (E.2.1 8 0)), (1, .int x1), (2, .ref (E.2.1 9 0)), (5, .ref (E.2.1 11 0)), (6, .ref (E.2.1 11 1)), (7, .ref (E.2.1 11 2)), (8, .ref (E.2.1 9 3)), (9, .int x9)]) ([.int r458_33, .int r445_32]) _
      refine cr_icmp_ne X 530 dL_told_461 rfl ?_ ?_
      · refine cr_iconst X (0 : Int32) (by decide) dL_told_530 ?_
        exact cr_zret X false rfl rfl rfl dL_told_531
      · refine cr_aload_n X 3 rfl dL_told_464 ?_
        refine cr_callV X (As := []) (rest := []) (c_X8_meanWind Γ.2.1 E hEK S) ((cr_b0 E).at rfl rfl) rfl 0 gL_told_X8_meanWind rfl rfl rfl (by decide +kernel) ⟨Nat.le_of_ble_eq_true rfl, Nat.le_of_ble_eq_true rfl⟩ (by decide) rfl rfl (Nat.le_of_ble_eq_true rfl) dL_told_465 (fun r465_34 => ?_)
        show cr_P Γ E 13 _ 0 0 S 468 ([(12, .int r435_31), (11, .int r424_30), (10, .int v419_29), (0, .ref (E.2.1 8 0)), (1, .int x1), (2, .ref (E.2.1 9 0)), (5, .ref (E.2.1 11 0)), (6, .ref (E.2.1 11 1)), (7, .ref (E.2.1 11 2)), (8, .ref (E.2.1 9 3)), (9, .int x9)]) ([.float r465_34]) _
        refine cr_aload X 6 rfl dL_told_468 ?_
        refine cr_iconst X (0 : Int32) (by decide) dL_told_470 ?_
        refine cr_ialdk X 0 (by decide) (by decide) ((cr_k0 E).at rfl rfl) dL_told_471 ?_
        refine cr_if_ne X 480 dL_told_472 rfl ?_ ?_
        · refine cr_fconst1 X dL_told_480 ?_
          refine cr_iload X 10 rfl dL_told_481 ?_
          refine cr_i2f X dL_told_483 ?_
          refine cr_fmul X dL_told_484 ?_
          refine cr_aload X 6 rfl dL_told_485 ?_
          refine cr_iconst X (0 : Int32) (by decide) dL_told_487 ?_
          refine cr_ialdk X 0 (by decide) (by decide) ((cr_k0 E).at rfl rfl) dL_told_488 ?_
          refine cr_i2f X dL_told_489 ?_
          refine cr_fdiv X dL_told_490 ?_
          refine cr_sub (lv' := [(0, .ref (E.2.1 8 0)), (2, .ref (E.2.1 9 0)), (8, .ref (E.2.1 9 3)), (10, .int v419_29)]) [3, 5, 9, 2] rfl ?_
          exact b_L_told_491 X S v419_29 ((FP.fdiv ((FP.fmul FP.fconst1 ((FP.i2f x9)))) ((FP.i2f (((S.1 11 0) 0)))))) r465_34
        · refine cr_ldcf X k_L_told_102 dL_told_475 ?_
          refine cr_goto X 491 dL_told_477 rfl ?_
          refine cr_sub (lv' := [(0, .ref (E.2.1 8 0)), (2, .ref (E.2.1 9 0)), (8, .ref (E.2.1 9 3)), (10, .int v419_29)]) [3, 5, 9, 2] rfl ?_
          exact b_L_told_491 X S v419_29 ((1090519040 : UInt32)) r465_34
    · refine cr_iload X 7 rfl dL_told_387 ?_
      refine cr_aload X 3 rfl dL_told_389 ?_
      refine cr_iload X 8 rfl dL_told_391 ?_
      refine cr_iald X ((cr_k0 E).at rfl rfl) dL_told_393 ?_
      refine cr_iadd X dL_told_394 ?_
      refine cr_istoreb X (fun v395_35 => [(9, .int v395_35), (0, .ref (E.2.1 8 0)), (1, .int x1), (2, .ref (E.2.1 9 0)), (5, .ref (E.2.1 11 0)), (6, .ref (E.2.1 11 1)), (7, .ref (E.2.1 11 2)), (8, .ref (E.2.1 9 3)), (10, .int x10)]) (fun _ => rfl) (by decide) dL_told_395 (fun v395_35 => ?_)
      refine cr_iinc X (x10 + 1) (fun v397_36 => [(10, .int v397_36), (9, .int v395_35), (0, .ref (E.2.1 8 0)), (1, .int x1), (2, .ref (E.2.1 9 0)), (5, .ref (E.2.1 11 0)), (6, .ref (E.2.1 11 1)), (7, .ref (E.2.1 11 2)), (8, .ref (E.2.1 9 3))]) 8 rfl rfl (fun _ => rfl) (by decide) dL_told_397 (fun v397_36 => ?_)
      refine cr_goto X 378 dL_told_400 rfl ?_
      refine cr_sub (lv' := [(0, .ref (E.2.1 8 0)), (1, .int x1), (2, .ref (E.2.1 9 0)), (5, .ref (E.2.1 11 0)), (6, .ref (E.2.1 11 1)), (7, .ref (E.2.1 11 2)), (8, .ref (E.2.1 9 3)), (9, .int v395_35), (10, .int v397_36)]) [2, 3, 4, 5, 6, 7, 8, 1, 0] rfl ?_
      exact ih x1 v395_35 v397_36
set_option maxHeartbeats 4000000 in
set_option maxRecDepth 100000 in
theorem b_L_told_320 {Γ : cr_C} {E : cr_E} (X : cr_X Γ E cL_told 13 RL wsL_told rm_L_told (some .boolean)) (S : cr_S) (x1 : Int32) (y0 : Int32) (y1 : Int32) : cr_P Γ E 13 (cr_F Γ E (cr_vB S)) 0 0 S 320 ([(0, .ref (E.2.1 8 0)), (1, .int x1), (2, .ref (E.2.1 9 0)), (5, .ref (E.2.1 11 0)), (6, .ref (E.2.1 11 1)), (7, .ref (E.2.1 11 2)), (8, .ref (E.2.1 9 3))]) ([.int y0, .int y1]) (s_L_told_320 S x1 y0 y1) := by
  have hEK := X.2.2.2.2.2.2.1
  unfold s_L_told_320
  refine cr_icmp_ne X 370 dL_told_320 rfl ?_ ?_
  · refine cr_iconst X (0 : Int32) (by decide) dL_told_370 ?_
    exact cr_zret X false rfl rfl rfl dL_told_371
  · refine cr_aload_n X 0 rfl dL_told_323 ?_
    refine cr_bipush X (11 : Int32) (by decide) dL_told_324 ?_
    refine cr_callV X (As := [.int ((11 : Int32))]) (rest := []) (c_X8_count Γ.2.1 E hEK S ((11 : Int32))) ((cr_b0 E).at rfl rfl) rfl 1 gL_told_X8_count rfl rfl rfl (by decide +kernel) ⟨Nat.le_of_ble_eq_true rfl, Nat.le_of_ble_eq_true rfl⟩ (by decide) rfl rfl (Nat.le_of_ble_eq_true rfl) dL_told_326 (fun r326_22 => ?_)
    show cr_P Γ E 13 _ 0 0 S 329 ([(0, .ref (E.2.1 8 0)), (1, .int x1), (2, .ref (E.2.1 9 0)), (5, .ref (E.2.1 11 0)), (6, .ref (E.2.1 11 1)), (7, .ref (E.2.1 11 2)), (8, .ref (E.2.1 9 3))]) ([.int r326_22]) _
    refine cr_iconst X (5 : Int32) (by decide) dL_told_329 ?_
    refine cr_aload_n X 2 rfl dL_told_330 ?_
    refine cr_aload X 6 rfl dL_told_331 ?_
    refine cr_callS X (As := [.int ((5 : Int32)), .ref (E.2.1 9 0), .ref (E.2.1 9 3)]) (rest := [.int r326_22]) (c_L_sum_S Γ.2.1 E hEK S (cr_g9 E) ((5 : Int32))) 3 gL_told_L_sum rfl rfl rfl (by decide +kernel) ⟨Nat.le_of_ble_eq_true rfl, Nat.le_of_ble_eq_true rfl⟩ (by decide) rfl rfl (Nat.le_of_ble_eq_true rfl) dL_told_333 (fun r333_23 => ?_)
    show cr_P Γ E 13 _ 0 0 S 336 ([(0, .ref (E.2.1 8 0)), (1, .int x1), (2, .ref (E.2.1 9 0)), (5, .ref (E.2.1 11 0)), (6, .ref (E.2.1 11 1)), (7, .ref (E.2.1 11 2)), (8, .ref (E.2.1 9 3))]) ([.int r333_23, .int r326_22]) _
    refine cr_icmp_ne X 370 dL_told_336 rfl ?_ ?_
    · refine cr_iconst X (0 : Int32) (by decide) dL_told_370 ?_
      exact cr_zret X false rfl rfl rfl dL_told_371
    · refine cr_aload_n X 0 rfl dL_told_339 ?_
      refine cr_bipush X (12 : Int32) (by decide) dL_told_340 ?_
      refine cr_callV X (As := [.int ((12 : Int32))]) (rest := []) (c_X8_count Γ.2.1 E hEK S ((12 : Int32))) ((cr_b0 E).at rfl rfl) rfl 1 gL_told_X8_count rfl rfl rfl (by decide +kernel) ⟨Nat.le_of_ble_eq_true rfl, Nat.le_of_ble_eq_true rfl⟩ (by decide) rfl rfl (Nat.le_of_ble_eq_true rfl) dL_told_342 (fun r342_24 => ?_)
      show cr_P Γ E 13 _ 0 0 S 345 ([(0, .ref (E.2.1 8 0)), (1, .int x1), (2, .ref (E.2.1 9 0)), (5, .ref (E.2.1 11 0)), (6, .ref (E.2.1 11 1)), (7, .ref (E.2.1 11 2)), (8, .ref (E.2.1 9 3))]) ([.int r342_24]) _
      refine cr_bipush X (6 : Int32) (by decide) dL_told_345 ?_
      refine cr_aload_n X 2 rfl dL_told_347 ?_
      refine cr_aload X 6 rfl dL_told_348 ?_
      refine cr_callS X (As := [.int ((6 : Int32)), .ref (E.2.1 9 0), .ref (E.2.1 9 3)]) (rest := [.int r342_24]) (c_L_sum_S Γ.2.1 E hEK S (cr_g9 E) ((6 : Int32))) 3 gL_told_L_sum rfl rfl rfl (by decide +kernel) ⟨Nat.le_of_ble_eq_true rfl, Nat.le_of_ble_eq_true rfl⟩ (by decide) rfl rfl (Nat.le_of_ble_eq_true rfl) dL_told_350 (fun r350_25 => ?_)
      show cr_P Γ E 13 _ 0 0 S 353 ([(0, .ref (E.2.1 8 0)), (1, .int x1), (2, .ref (E.2.1 9 0)), (5, .ref (E.2.1 11 0)), (6, .ref (E.2.1 11 1)), (7, .ref (E.2.1 11 2)), (8, .ref (E.2.1 9 3))]) ([.int r350_25, .int r342_24]) _
      refine cr_icmp_ne X 370 dL_told_353 rfl ?_ ?_
      · refine cr_iconst X (0 : Int32) (by decide) dL_told_370 ?_
        exact cr_zret X false rfl rfl rfl dL_told_371
      · refine cr_aload_n X 0 rfl dL_told_356 ?_
        refine cr_bipush X (13 : Int32) (by decide) dL_told_357 ?_
        refine cr_callV X (As := [.int ((13 : Int32))]) (rest := []) (c_X8_count Γ.2.1 E hEK S ((13 : Int32))) ((cr_b0 E).at rfl rfl) rfl 1 gL_told_X8_count rfl rfl rfl (by decide +kernel) ⟨Nat.le_of_ble_eq_true rfl, Nat.le_of_ble_eq_true rfl⟩ (by decide) rfl rfl (Nat.le_of_ble_eq_true rfl) dL_told_359 (fun r359_26 => ?_)
        show cr_P Γ E 13 _ 0 0 S 362 ([(0, .ref (E.2.1 8 0)), (1, .int x1), (2, .ref (E.2.1 9 0)), (5, .ref (E.2.1 11 0)), (6, .ref (E.2.1 11 1)), (7, .ref (E.2.1 11 2)), (8, .ref (E.2.1 9 3))]) ([.int r359_26]) _
        refine cr_aload X 6 rfl dL_told_362 ?_
        refine cr_bipush X (7 : Int32) (by decide) dL_told_364 ?_
        refine cr_ialdk X 7 (by decide) (by decide) ((cr_n3 E (cr_g9 E)).at rfl rfl) dL_told_366 ?_
        refine cr_icmp_eq X 372 dL_told_367 rfl ?_ ?_
        · refine cr_iconst X (0 : Int32) (by decide) dL_told_372 ?_
          refine cr_istore X ([(9, .int ((0 : Int32))), (0, .ref (E.2.1 8 0)), (1, .int x1), (2, .ref (E.2.1 9 0)), (5, .ref (E.2.1 11 0)), (6, .ref (E.2.1 11 1)), (7, .ref (E.2.1 11 2)), (8, .ref (E.2.1 9 3))]) rfl (by decide) dL_told_373 ?_
          refine cr_iconst X (1 : Int32) (by decide) dL_told_375 ?_
          refine cr_istore X ([(10, .int ((1 : Int32))), (9, .int ((0 : Int32))), (0, .ref (E.2.1 8 0)), (1, .int x1), (2, .ref (E.2.1 9 0)), (5, .ref (E.2.1 11 0)), (6, .ref (E.2.1 11 1)), (7, .ref (E.2.1 11 2)), (8, .ref (E.2.1 9 3))]) rfl (by decide) dL_told_376 ?_
          refine cr_sub (lv' := [(0, .ref (E.2.1 8 0)), (1, .int x1), (2, .ref (E.2.1 9 0)), (5, .ref (E.2.1 11 0)), (6, .ref (E.2.1 11 1)), (7, .ref (E.2.1 11 2)), (8, .ref (E.2.1 9 3)), (9, .int ((0 : Int32))), (10, .int ((1 : Int32)))]) [2, 3, 4, 5, 6, 7, 8, 1, 0] rfl ?_
          exact b_L_told_378 X S 1200 x1 ((0 : Int32)) ((1 : Int32))
        · refine cr_iconst X (0 : Int32) (by decide) dL_told_370 ?_
          exact cr_zret X false rfl rfl rfl dL_told_371
set_option maxHeartbeats 4000000 in
set_option maxRecDepth 100000 in
theorem b_L_told_244 {Γ : cr_C} {E : cr_E} (X : cr_X Γ E cL_told 13 RL wsL_told rm_L_told (some .boolean)) (S : cr_S) (x1 : Int32) (y0 : Int32) (y1 : Int32) : cr_P Γ E 13 (cr_F Γ E (cr_vB S)) 0 0 S 244 ([(0, .ref (E.2.1 8 0)), (1, .int x1), (2, .ref (E.2.1 9 0)), (4, .ref (E.2.1 9 2)), (5, .ref (E.2.1 11 0)), (6, .ref (E.2.1 11 1)), (7, .ref (E.2.1 11 2)), (8, .ref (E.2.1 9 3))]) ([.int y0, .int y1]) (s_L_told_244 S x1 y0 y1) := by
  have hEK := X.2.2.2.2.2.2.1
  unfold s_L_told_244
  refine cr_icmp_eq X 249 dL_told_244 rfl ?_ ?_
  · refine cr_aload_n X 0 rfl dL_told_249 ?_
    refine cr_bipush X (7 : Int32) (by decide) dL_told_250 ?_
    refine cr_callV X (As := [.int ((7 : Int32))]) (rest := []) (c_X8_count Γ.2.1 E hEK S ((7 : Int32))) ((cr_b0 E).at rfl rfl) rfl 1 gL_told_X8_count rfl rfl rfl (by decide +kernel) ⟨Nat.le_of_ble_eq_true rfl, Nat.le_of_ble_eq_true rfl⟩ (by decide) rfl rfl (Nat.le_of_ble_eq_true rfl) dL_told_252 (fun r252_18 => ?_)
    show cr_P Γ E 13 _ 0 0 S 255 ([(0, .ref (E.2.1 8 0)), (1, .int x1), (2, .ref (E.2.1 9 0)), (4, .ref (E.2.1 9 2)), (5, .ref (E.2.1 11 0)), (6, .ref (E.2.1 11 1)), (7, .ref (E.2.1 11 2)), (8, .ref (E.2.1 9 3))]) ([.int r252_18]) _
    refine cr_aload X 7 rfl dL_told_255 ?_
    refine cr_iconst X (0 : Int32) (by decide) dL_told_257 ?_
    refine cr_ialdk X 0 (by decide) (by decide) ((cr_n3 E (cr_g9 E)).at rfl rfl) dL_told_258 ?_
    refine cr_icmp_ne X 370 dL_told_259 rfl ?_ ?_
    · refine cr_iconst X (0 : Int32) (by decide) dL_told_370 ?_
      exact cr_zret X false rfl rfl rfl dL_told_371
    · refine cr_aload_n X 0 rfl dL_told_262 ?_
      refine cr_bipush X (8 : Int32) (by decide) dL_told_263 ?_
      refine cr_callV X (As := [.int ((8 : Int32))]) (rest := []) (c_X8_count Γ.2.1 E hEK S ((8 : Int32))) ((cr_b0 E).at rfl rfl) rfl 1 gL_told_X8_count rfl rfl rfl (by decide +kernel) ⟨Nat.le_of_ble_eq_true rfl, Nat.le_of_ble_eq_true rfl⟩ (by decide) rfl rfl (Nat.le_of_ble_eq_true rfl) dL_told_265 (fun r265_19 => ?_)
      show cr_P Γ E 13 _ 0 0 S 268 ([(0, .ref (E.2.1 8 0)), (1, .int x1), (2, .ref (E.2.1 9 0)), (4, .ref (E.2.1 9 2)), (5, .ref (E.2.1 11 0)), (6, .ref (E.2.1 11 1)), (7, .ref (E.2.1 11 2)), (8, .ref (E.2.1 9 3))]) ([.int r265_19]) _
      refine cr_aload X 7 rfl dL_told_268 ?_
      refine cr_iconst X (2 : Int32) (by decide) dL_told_270 ?_
      refine cr_ialdk X 2 (by decide) (by decide) ((cr_n3 E (cr_g9 E)).at rfl rfl) dL_told_271 ?_
      refine cr_icmp_ne X 370 dL_told_272 rfl ?_ ?_
      · refine cr_iconst X (0 : Int32) (by decide) dL_told_370 ?_
        exact cr_zret X false rfl rfl rfl dL_told_371
      · refine cr_aload_n X 0 rfl dL_told_275 ?_
        refine cr_bipush X (9 : Int32) (by decide) dL_told_276 ?_
        refine cr_callV X (As := [.int ((9 : Int32))]) (rest := []) (c_X8_count Γ.2.1 E hEK S ((9 : Int32))) ((cr_b0 E).at rfl rfl) rfl 1 gL_told_X8_count rfl rfl rfl (by decide +kernel) ⟨Nat.le_of_ble_eq_true rfl, Nat.le_of_ble_eq_true rfl⟩ (by decide) rfl rfl (Nat.le_of_ble_eq_true rfl) dL_told_278 (fun r278_20 => ?_)
        show cr_P Γ E 13 _ 0 0 S 281 ([(0, .ref (E.2.1 8 0)), (1, .int x1), (2, .ref (E.2.1 9 0)), (4, .ref (E.2.1 9 2)), (5, .ref (E.2.1 11 0)), (6, .ref (E.2.1 11 1)), (7, .ref (E.2.1 11 2)), (8, .ref (E.2.1 9 3))]) ([.int r278_20]) _
        refine cr_aload X 7 rfl dL_told_281 ?_
        refine cr_iconst X (1 : Int32) (by decide) dL_told_283 ?_
        refine cr_ialdk X 1 (by decide) (by decide) ((cr_n3 E (cr_g9 E)).at rfl rfl) dL_told_284 ?_
        refine cr_icmp_ne X 370 dL_told_285 rfl ?_ ?_
        · refine cr_iconst X (0 : Int32) (by decide) dL_told_370 ?_
          exact cr_zret X false rfl rfl rfl dL_told_371
        · refine cr_aload_n X 0 rfl dL_told_288 ?_
          refine cr_bipush X (10 : Int32) (by decide) dL_told_289 ?_
          refine cr_callV X (As := [.int ((10 : Int32))]) (rest := []) (c_X8_count Γ.2.1 E hEK S ((10 : Int32))) ((cr_b0 E).at rfl rfl) rfl 1 gL_told_X8_count rfl rfl rfl (by decide +kernel) ⟨Nat.le_of_ble_eq_true rfl, Nat.le_of_ble_eq_true rfl⟩ (by decide) rfl rfl (Nat.le_of_ble_eq_true rfl) dL_told_291 (fun r291_21 => ?_)
          show cr_P Γ E 13 _ 0 0 S 294 ([(0, .ref (E.2.1 8 0)), (1, .int x1), (2, .ref (E.2.1 9 0)), (4, .ref (E.2.1 9 2)), (5, .ref (E.2.1 11 0)), (6, .ref (E.2.1 11 1)), (7, .ref (E.2.1 11 2)), (8, .ref (E.2.1 9 3))]) ([.int r291_21]) _
          refine cr_aload X 3 rfl dL_told_294 ?_
          refine cr_iconst X (0 : Int32) (by decide) dL_told_296 ?_
          refine cr_ialdk X 0 (by decide) (by decide) ((cr_n2 E (cr_g9 E)).at rfl rfl) dL_told_297 ?_
          refine cr_if_le X 319 dL_told_298 rfl ?_ ?_
          · refine cr_iconst X (0 : Int32) (by decide) dL_told_319 ?_
            refine cr_sub (lv' := [(0, .ref (E.2.1 8 0)), (1, .int x1), (2, .ref (E.2.1 9 0)), (5, .ref (E.2.1 11 0)), (6, .ref (E.2.1 11 1)), (7, .ref (E.2.1 11 2)), (8, .ref (E.2.1 9 3))]) [0, 1, 2, 4, 5, 6, 7] rfl ?_
            exact b_L_told_320 X S x1 ((0 : Int32)) r291_21
          · refine cr_aload X 3 rfl dL_told_301 ?_
            refine cr_iconst X (1 : Int32) (by decide) dL_told_303 ?_
            refine cr_ialdk X 1 (by decide) (by decide) ((cr_n2 E (cr_g9 E)).at rfl rfl) dL_told_304 ?_
            refine cr_aload X 7 rfl dL_told_305 ?_
            refine cr_iconst X (4 : Int32) (by decide) dL_told_307 ?_
            refine cr_ialdk X 4 (by decide) (by decide) ((cr_n3 E (cr_g9 E)).at rfl rfl) dL_told_308 ?_
            refine cr_icmp_ne X 319 dL_told_309 rfl ?_ ?_
            · refine cr_iconst X (0 : Int32) (by decide) dL_told_319 ?_
              refine cr_sub (lv' := [(0, .ref (E.2.1 8 0)), (1, .int x1), (2, .ref (E.2.1 9 0)), (5, .ref (E.2.1 11 0)), (6, .ref (E.2.1 11 1)), (7, .ref (E.2.1 11 2)), (8, .ref (E.2.1 9 3))]) [0, 1, 2, 4, 5, 6, 7] rfl ?_
              exact b_L_told_320 X S x1 ((0 : Int32)) r291_21
            · refine cr_aload X 7 rfl dL_told_312 ?_
              refine cr_iconst X (3 : Int32) (by decide) dL_told_314 ?_
              refine cr_ialdk X 3 (by decide) (by decide) ((cr_n3 E (cr_g9 E)).at rfl rfl) dL_told_315 ?_
              refine cr_goto X 320 dL_told_316 rfl ?_
              refine cr_sub (lv' := [(0, .ref (E.2.1 8 0)), (1, .int x1), (2, .ref (E.2.1 9 0)), (5, .ref (E.2.1 11 0)), (6, .ref (E.2.1 11 1)), (7, .ref (E.2.1 11 2)), (8, .ref (E.2.1 9 3))]) [0, 1, 2, 4, 5, 6, 7] rfl ?_
              exact b_L_told_320 X S x1 (((S.1 9 3) 3)) r291_21
  · refine cr_iconst X (0 : Int32) (by decide) dL_told_247 ?_
    exact cr_zret X false rfl rfl rfl dL_told_248
set_option maxHeartbeats 4000000 in
set_option maxRecDepth 100000 in
theorem b_L_told_113 {Γ : cr_C} {E : cr_E} (X : cr_X Γ E cL_told 13 RL wsL_told rm_L_told (some .boolean)) (S : cr_S) : ∀ (n : Nat) (x1 : Int32) (x9 : Int32), cr_P Γ E 13 (cr_F Γ E (cr_vB S)) 0 0 S 113 ([(0, .ref (E.2.1 8 0)), (1, .int x1), (2, .ref (E.2.1 9 0)), (4, .ref (E.2.1 9 2)), (5, .ref (E.2.1 11 0)), (6, .ref (E.2.1 11 1)), (7, .ref (E.2.1 11 2)), (8, .ref (E.2.1 9 3)), (9, .int x9)]) ([]) (s_L_told_113 S n x1 x9) := by
  have hEK := X.2.2.2.2.2.2.1
  intro n
  induction n with
  | zero => intro x1 x9; exact cr_none
  | succ n ih =>
    intro x1 x9
    rw [s_L_told_113]
    refine cr_iload X 8 rfl dL_told_113 ?_
    refine cr_bipush X (7 : Int32) (by decide) dL_told_115 ?_
    refine cr_icmp_ge X 142 dL_told_117 rfl ?_ ?_
    · refine cr_aload_n X 0 rfl dL_told_142 ?_
      refine cr_iconst X (0 : Int32) (by decide) dL_told_143 ?_
      refine cr_callV X (As := [.int ((0 : Int32))]) (rest := []) (c_X8_count Γ.2.1 E hEK S ((0 : Int32))) ((cr_b0 E).at rfl rfl) rfl 1 gL_told_X8_count rfl rfl rfl (by decide +kernel) ⟨Nat.le_of_ble_eq_true rfl, Nat.le_of_ble_eq_true rfl⟩ (by decide) rfl rfl (Nat.le_of_ble_eq_true rfl) dL_told_144 (fun r144_7 => ?_)
      show cr_P Γ E 13 _ 0 0 S 147 ([(0, .ref (E.2.1 8 0)), (1, .int x1), (2, .ref (E.2.1 9 0)), (4, .ref (E.2.1 9 2)), (5, .ref (E.2.1 11 0)), (6, .ref (E.2.1 11 1)), (7, .ref (E.2.1 11 2)), (8, .ref (E.2.1 9 3)), (9, .int x9)]) ([.int r144_7]) _
      refine cr_aload X 7 rfl dL_told_147 ?_
      refine cr_bipush X (6 : Int32) (by decide) dL_told_149 ?_
      refine cr_ialdk X 6 (by decide) (by decide) ((cr_n3 E (cr_g9 E)).at rfl rfl) dL_told_151 ?_
      refine cr_icmp_ne X 247 dL_told_152 rfl ?_ ?_
      · refine cr_iconst X (0 : Int32) (by decide) dL_told_247 ?_
        exact cr_zret X false rfl rfl rfl dL_told_248
      · refine cr_aload_n X 0 rfl dL_told_155 ?_
        refine cr_iconst X (1 : Int32) (by decide) dL_told_156 ?_
        refine cr_callV X (As := [.int ((1 : Int32))]) (rest := []) (c_X8_count Γ.2.1 E hEK S ((1 : Int32))) ((cr_b0 E).at rfl rfl) rfl 1 gL_told_X8_count rfl rfl rfl (by decide +kernel) ⟨Nat.le_of_ble_eq_true rfl, Nat.le_of_ble_eq_true rfl⟩ (by decide) rfl rfl (Nat.le_of_ble_eq_true rfl) dL_told_157 (fun r157_8 => ?_)
        show cr_P Γ E 13 _ 0 0 S 160 ([(0, .ref (E.2.1 8 0)), (1, .int x1), (2, .ref (E.2.1 9 0)), (4, .ref (E.2.1 9 2)), (5, .ref (E.2.1 11 0)), (6, .ref (E.2.1 11 1)), (7, .ref (E.2.1 11 2)), (8, .ref (E.2.1 9 3)), (9, .int x9)]) ([.int r157_8]) _
        refine cr_iconst X (3 : Int32) (by decide) dL_told_160 ?_
        refine cr_aload_n X 2 rfl dL_told_161 ?_
        refine cr_aload X 7 rfl dL_told_162 ?_
        refine cr_callS X (As := [.int ((3 : Int32)), .ref (E.2.1 9 0), .ref (E.2.1 9 3)]) (rest := [.int r157_8]) (c_L_sum_S Γ.2.1 E hEK S (cr_g9 E) ((3 : Int32))) 3 gL_told_L_sum rfl rfl rfl (by decide +kernel) ⟨Nat.le_of_ble_eq_true rfl, Nat.le_of_ble_eq_true rfl⟩ (by decide) rfl rfl (Nat.le_of_ble_eq_true rfl) dL_told_164 (fun r164_9 => ?_)
        show cr_P Γ E 13 _ 0 0 S 167 ([(0, .ref (E.2.1 8 0)), (1, .int x1), (2, .ref (E.2.1 9 0)), (4, .ref (E.2.1 9 2)), (5, .ref (E.2.1 11 0)), (6, .ref (E.2.1 11 1)), (7, .ref (E.2.1 11 2)), (8, .ref (E.2.1 9 3)), (9, .int x9)]) ([.int r164_9, .int r157_8]) _
        refine cr_icmp_ne X 247 dL_told_167 rfl ?_ ?_
        · refine cr_iconst X (0 : Int32) (by decide) dL_told_247 ?_
          exact cr_zret X false rfl rfl rfl dL_told_248
        · refine cr_aload_n X 0 rfl dL_told_170 ?_
          refine cr_iconst X (2 : Int32) (by decide) dL_told_171 ?_
          refine cr_callV X (As := [.int ((2 : Int32))]) (rest := []) (c_X8_count Γ.2.1 E hEK S ((2 : Int32))) ((cr_b0 E).at rfl rfl) rfl 1 gL_told_X8_count rfl rfl rfl (by decide +kernel) ⟨Nat.le_of_ble_eq_true rfl, Nat.le_of_ble_eq_true rfl⟩ (by decide) rfl rfl (Nat.le_of_ble_eq_true rfl) dL_told_172 (fun r172_10 => ?_)
          show cr_P Γ E 13 _ 0 0 S 175 ([(0, .ref (E.2.1 8 0)), (1, .int x1), (2, .ref (E.2.1 9 0)), (4, .ref (E.2.1 9 2)), (5, .ref (E.2.1 11 0)), (6, .ref (E.2.1 11 1)), (7, .ref (E.2.1 11 2)), (8, .ref (E.2.1 9 3)), (9, .int x9)]) ([.int r172_10]) _
          refine cr_aload X 7 rfl dL_told_175 ?_
          refine cr_iconst X (5 : Int32) (by decide) dL_told_177 ?_
          refine cr_ialdk X 5 (by decide) (by decide) ((cr_n3 E (cr_g9 E)).at rfl rfl) dL_told_178 ?_
          refine cr_icmp_ne X 247 dL_told_179 rfl ?_ ?_
          · refine cr_iconst X (0 : Int32) (by decide) dL_told_247 ?_
            exact cr_zret X false rfl rfl rfl dL_told_248
          · refine cr_aload_n X 0 rfl dL_told_182 ?_
            refine cr_iconst X (3 : Int32) (by decide) dL_told_183 ?_
            refine cr_callV X (As := [.int ((3 : Int32))]) (rest := []) (c_X8_count Γ.2.1 E hEK S ((3 : Int32))) ((cr_b0 E).at rfl rfl) rfl 1 gL_told_X8_count rfl rfl rfl (by decide +kernel) ⟨Nat.le_of_ble_eq_true rfl, Nat.le_of_ble_eq_true rfl⟩ (by decide) rfl rfl (Nat.le_of_ble_eq_true rfl) dL_told_184 (fun r184_11 => ?_)
            show cr_P Γ E 13 _ 0 0 S 187 ([(0, .ref (E.2.1 8 0)), (1, .int x1), (2, .ref (E.2.1 9 0)), (4, .ref (E.2.1 9 2)), (5, .ref (E.2.1 11 0)), (6, .ref (E.2.1 11 1)), (7, .ref (E.2.1 11 2)), (8, .ref (E.2.1 9 3)), (9, .int x9)]) ([.int r184_11]) _
            refine cr_aload X 7 rfl dL_told_187 ?_
            refine cr_iconst X (5 : Int32) (by decide) dL_told_189 ?_
            refine cr_ialdk X 5 (by decide) (by decide) ((cr_n3 E (cr_g9 E)).at rfl rfl) dL_told_190 ?_
            refine cr_aload X 4 rfl dL_told_191 ?_
            refine cr_callS X (As := [.int (((S.1 9 3) 5)), .ref (E.2.1 11 0)]) (rest := [.int r184_11]) (c_L_wind_S Γ.2.1 E hEK S (cr_g9 E) (((S.1 9 3) 5))) 2 gL_told_L_wind rfl rfl rfl (by decide +kernel) ⟨Nat.le_of_ble_eq_true rfl, Nat.le_of_ble_eq_true rfl⟩ (by decide) rfl rfl (Nat.le_of_ble_eq_true rfl) dL_told_193 (fun r193_12 => ?_)
            show cr_P Γ E 13 _ 0 0 S 196 ([(0, .ref (E.2.1 8 0)), (1, .int x1), (2, .ref (E.2.1 9 0)), (4, .ref (E.2.1 9 2)), (5, .ref (E.2.1 11 0)), (6, .ref (E.2.1 11 1)), (7, .ref (E.2.1 11 2)), (8, .ref (E.2.1 9 3)), (9, .int x9)]) ([.int r193_12, .int r184_11]) _
            refine cr_icmp_ne X 247 dL_told_196 rfl ?_ ?_
            · refine cr_iconst X (0 : Int32) (by decide) dL_told_247 ?_
              exact cr_zret X false rfl rfl rfl dL_told_248
            · refine cr_aload_n X 0 rfl dL_told_199 ?_
              refine cr_iconst X (4 : Int32) (by decide) dL_told_200 ?_
              refine cr_callV X (As := [.int ((4 : Int32))]) (rest := []) (c_X8_count Γ.2.1 E hEK S ((4 : Int32))) ((cr_b0 E).at rfl rfl) rfl 1 gL_told_X8_count rfl rfl rfl (by decide +kernel) ⟨Nat.le_of_ble_eq_true rfl, Nat.le_of_ble_eq_true rfl⟩ (by decide) rfl rfl (Nat.le_of_ble_eq_true rfl) dL_told_201 (fun r201_13 => ?_)
              show cr_P Γ E 13 _ 0 0 S 204 ([(0, .ref (E.2.1 8 0)), (1, .int x1), (2, .ref (E.2.1 9 0)), (4, .ref (E.2.1 9 2)), (5, .ref (E.2.1 11 0)), (6, .ref (E.2.1 11 1)), (7, .ref (E.2.1 11 2)), (8, .ref (E.2.1 9 3)), (9, .int x9)]) ([.int r201_13]) _
              refine cr_aload X 4 rfl dL_told_204 ?_
              refine cr_iconst X (0 : Int32) (by decide) dL_told_206 ?_
              refine cr_ialdk X 0 (by decide) (by decide) ((cr_k0 E).at rfl rfl) dL_told_207 ?_
              refine cr_icmp_ne X 247 dL_told_208 rfl ?_ ?_
              · refine cr_iconst X (0 : Int32) (by decide) dL_told_247 ?_
                exact cr_zret X false rfl rfl rfl dL_told_248
              · refine cr_aload_n X 0 rfl dL_told_211 ?_
                refine cr_iconst X (5 : Int32) (by decide) dL_told_212 ?_
                refine cr_callV X (As := [.int ((5 : Int32))]) (rest := []) (c_X8_count Γ.2.1 E hEK S ((5 : Int32))) ((cr_b0 E).at rfl rfl) rfl 1 gL_told_X8_count rfl rfl rfl (by decide +kernel) ⟨Nat.le_of_ble_eq_true rfl, Nat.le_of_ble_eq_true rfl⟩ (by decide) rfl rfl (Nat.le_of_ble_eq_true rfl) dL_told_213 (fun r213_14 => ?_)
                show cr_P Γ E 13 _ 0 0 S 216 ([(0, .ref (E.2.1 8 0)), (1, .int x1), (2, .ref (E.2.1 9 0)), (4, .ref (E.2.1 9 2)), (5, .ref (E.2.1 11 0)), (6, .ref (E.2.1 11 1)), (7, .ref (E.2.1 11 2)), (8, .ref (E.2.1 9 3)), (9, .int x9)]) ([.int r213_14]) _
                refine cr_aload X 3 rfl dL_told_216 ?_
                refine cr_iconst X (0 : Int32) (by decide) dL_told_218 ?_
                refine cr_ialdk X 0 (by decide) (by decide) ((cr_n2 E (cr_g9 E)).at rfl rfl) dL_told_219 ?_
                refine cr_icmp_ne X 247 dL_told_220 rfl ?_ ?_
                · refine cr_iconst X (0 : Int32) (by decide) dL_told_247 ?_
                  exact cr_zret X false rfl rfl rfl dL_told_248
                · refine cr_aload_n X 0 rfl dL_told_223 ?_
                  refine cr_bipush X (6 : Int32) (by decide) dL_told_224 ?_
                  refine cr_callV X (As := [.int ((6 : Int32))]) (rest := []) (c_X8_count Γ.2.1 E hEK S ((6 : Int32))) ((cr_b0 E).at rfl rfl) rfl 1 gL_told_X8_count rfl rfl rfl (by decide +kernel) ⟨Nat.le_of_ble_eq_true rfl, Nat.le_of_ble_eq_true rfl⟩ (by decide) rfl rfl (Nat.le_of_ble_eq_true rfl) dL_told_226 (fun r226_15 => ?_)
                  show cr_P Γ E 13 _ 0 0 S 229 ([(0, .ref (E.2.1 8 0)), (1, .int x1), (2, .ref (E.2.1 9 0)), (4, .ref (E.2.1 9 2)), (5, .ref (E.2.1 11 0)), (6, .ref (E.2.1 11 1)), (7, .ref (E.2.1 11 2)), (8, .ref (E.2.1 9 3)), (9, .int x9)]) ([.int r226_15]) _
                  refine cr_aload X 3 rfl dL_told_229 ?_
                  refine cr_iconst X (0 : Int32) (by decide) dL_told_231 ?_
                  refine cr_ialdk X 0 (by decide) (by decide) ((cr_n2 E (cr_g9 E)).at rfl rfl) dL_told_232 ?_
                  refine cr_if_le X 243 dL_told_233 rfl ?_ ?_
                  · refine cr_iconst X (-1 : Int32) (by decide) dL_told_243 ?_
                    refine cr_sub (lv' := [(0, .ref (E.2.1 8 0)), (1, .int x1), (2, .ref (E.2.1 9 0)), (4, .ref (E.2.1 9 2)), (5, .ref (E.2.1 11 0)), (6, .ref (E.2.1 11 1)), (7, .ref (E.2.1 11 2)), (8, .ref (E.2.1 9 3))]) [0, 1, 2, 3, 4, 5, 6, 7] rfl ?_
                    exact b_L_told_244 X S x1 ((-1 : Int32)) r226_15
                  · refine cr_aload X 3 rfl dL_told_236 ?_
                    refine cr_iconst X (1 : Int32) (by decide) dL_told_238 ?_
                    refine cr_ialdk X 1 (by decide) (by decide) ((cr_n2 E (cr_g9 E)).at rfl rfl) dL_told_239 ?_
                    refine cr_goto X 244 dL_told_240 rfl ?_
                    refine cr_sub (lv' := [(0, .ref (E.2.1 8 0)), (1, .int x1), (2, .ref (E.2.1 9 0)), (4, .ref (E.2.1 9 2)), (5, .ref (E.2.1 11 0)), (6, .ref (E.2.1 11 1)), (7, .ref (E.2.1 11 2)), (8, .ref (E.2.1 9 3))]) [0, 1, 2, 3, 4, 5, 6, 7] rfl ?_
                    exact b_L_told_244 X S x1 (((S.1 9 2) 1)) r226_15
    · refine cr_aload_n X 0 rfl dL_told_120 ?_
      refine cr_iload X 8 rfl dL_told_121 ?_
      refine cr_callV X (As := [.int x9]) (rest := []) (c_X8_setting Γ.2.1 E hEK S x9) ((cr_b0 E).at rfl rfl) rfl 1 gL_told_X8_setting rfl rfl rfl (by decide +kernel) ⟨Nat.le_of_ble_eq_true rfl, Nat.le_of_ble_eq_true rfl⟩ (by decide) rfl rfl (Nat.le_of_ble_eq_true rfl) dL_told_123 (fun r123_16 => ?_)
      show cr_P Γ E 13 _ 0 0 S 126 ([(0, .ref (E.2.1 8 0)), (1, .int x1), (2, .ref (E.2.1 9 0)), (4, .ref (E.2.1 9 2)), (5, .ref (E.2.1 11 0)), (6, .ref (E.2.1 11 1)), (7, .ref (E.2.1 11 2)), (8, .ref (E.2.1 9 3)), (9, .int x9)]) ([.int r123_16]) _
      refine cr_aload X 5 rfl dL_told_126 ?_
      refine cr_iload X 8 rfl dL_told_128 ?_
      refine cr_iald X ((cr_k1 E).at rfl rfl) dL_told_130 ?_
      refine cr_icmp_eq X 136 dL_told_131 rfl ?_ ?_
      · refine cr_iinc X (x9 + 1) (fun v136_17 => [(9, .int v136_17), (0, .ref (E.2.1 8 0)), (1, .int x1), (2, .ref (E.2.1 9 0)), (4, .ref (E.2.1 9 2)), (5, .ref (E.2.1 11 0)), (6, .ref (E.2.1 11 1)), (7, .ref (E.2.1 11 2)), (8, .ref (E.2.1 9 3))]) 8 rfl rfl (fun _ => rfl) (by decide) dL_told_136 (fun v136_17 => ?_)
        refine cr_goto X 113 dL_told_139 rfl ?_
        refine cr_sub (lv' := [(0, .ref (E.2.1 8 0)), (1, .int x1), (2, .ref (E.2.1 9 0)), (4, .ref (E.2.1 9 2)), (5, .ref (E.2.1 11 0)), (6, .ref (E.2.1 11 1)), (7, .ref (E.2.1 11 2)), (8, .ref (E.2.1 9 3)), (9, .int v136_17)]) [1, 2, 3, 4, 5, 6, 7, 8, 0] rfl ?_
        exact ih x1 v136_17
      · refine cr_iconst X (0 : Int32) (by decide) dL_told_134 ?_
        exact cr_zret X false rfl rfl rfl dL_told_135
set_option maxHeartbeats 4000000 in
set_option maxRecDepth 100000 in
theorem b_L_told_79 {Γ : cr_C} {E : cr_E} (X : cr_X Γ E cL_told 13 RL wsL_told rm_L_told (some .boolean)) (S : cr_S) : ∀ (n : Nat) (x1 : Int32) (x9 : Int32), cr_P Γ E 13 (cr_F Γ E (cr_vB S)) 0 0 S 79 ([(0, .ref (E.2.1 8 0)), (1, .int x1), (2, .ref (E.2.1 9 0)), (4, .ref (E.2.1 9 2)), (5, .ref (E.2.1 11 0)), (6, .ref (E.2.1 11 1)), (7, .ref (E.2.1 11 2)), (8, .ref (E.2.1 9 3)), (9, .int x9)]) ([]) (s_L_told_79 S n x1 x9) := by
  have hEK := X.2.2.2.2.2.2.1
  intro n
  induction n with
  | zero => intro x1 x9; exact cr_none
  | succ n ih =>
    intro x1 x9
    rw [s_L_told_79]
    refine cr_iload X 8 rfl dL_told_79 ?_
    refine cr_iconst X (5 : Int32) (by decide) dL_told_81 ?_
    refine cr_icmp_ge X 110 dL_told_82 rfl ?_ ?_
    · refine cr_iconst X (0 : Int32) (by decide) dL_told_110 ?_
      refine cr_istore X ([(9, .int ((0 : Int32))), (0, .ref (E.2.1 8 0)), (1, .int x1), (2, .ref (E.2.1 9 0)), (4, .ref (E.2.1 9 2)), (5, .ref (E.2.1 11 0)), (6, .ref (E.2.1 11 1)), (7, .ref (E.2.1 11 2)), (8, .ref (E.2.1 9 3))]) rfl (by decide) dL_told_111 ?_
      refine cr_sub (lv' := [(0, .ref (E.2.1 8 0)), (1, .int x1), (2, .ref (E.2.1 9 0)), (4, .ref (E.2.1 9 2)), (5, .ref (E.2.1 11 0)), (6, .ref (E.2.1 11 1)), (7, .ref (E.2.1 11 2)), (8, .ref (E.2.1 9 3)), (9, .int ((0 : Int32)))]) [1, 2, 3, 4, 5, 6, 7, 8, 0] rfl ?_
      exact b_L_told_113 X S 1200 x1 ((0 : Int32))
    · refine cr_aload_n X 0 rfl dL_told_85 ?_
      refine cr_iload X 8 rfl dL_told_86 ?_
      refine cr_callV X (As := [.int x9]) (rest := []) (c_X8_claims Γ.2.1 E hEK S x9) ((cr_b0 E).at rfl rfl) rfl 1 gL_told_X8_claims rfl rfl rfl (by decide +kernel) ⟨Nat.le_of_ble_eq_true rfl, Nat.le_of_ble_eq_true rfl⟩ (by decide) rfl rfl (Nat.le_of_ble_eq_true rfl) dL_told_88 (fun r88_5 => ?_)
      show cr_P Γ E 13 _ 0 0 S 91 ([(0, .ref (E.2.1 8 0)), (1, .int x1), (2, .ref (E.2.1 9 0)), (4, .ref (E.2.1 9 2)), (5, .ref (E.2.1 11 0)), (6, .ref (E.2.1 11 1)), (7, .ref (E.2.1 11 2)), (8, .ref (E.2.1 9 3)), (9, .int x9)]) ([.int r88_5]) _
      refine cr_aload X 7 rfl dL_told_91 ?_
      refine cr_bipush X (9 : Int32) (by decide) dL_told_93 ?_
      refine cr_iload X 8 rfl dL_told_95 ?_
      refine cr_iadd X dL_told_97 ?_
      refine cr_iald X ((cr_n3 E (cr_g9 E)).at rfl rfl) dL_told_98 ?_
      refine cr_icmp_eq X 104 dL_told_99 rfl ?_ ?_
      · refine cr_iinc X (x9 + 1) (fun v104_6 => [(9, .int v104_6), (0, .ref (E.2.1 8 0)), (1, .int x1), (2, .ref (E.2.1 9 0)), (4, .ref (E.2.1 9 2)), (5, .ref (E.2.1 11 0)), (6, .ref (E.2.1 11 1)), (7, .ref (E.2.1 11 2)), (8, .ref (E.2.1 9 3))]) 8 rfl rfl (fun _ => rfl) (by decide) dL_told_104 (fun v104_6 => ?_)
        refine cr_goto X 79 dL_told_107 rfl ?_
        refine cr_sub (lv' := [(0, .ref (E.2.1 8 0)), (1, .int x1), (2, .ref (E.2.1 9 0)), (4, .ref (E.2.1 9 2)), (5, .ref (E.2.1 11 0)), (6, .ref (E.2.1 11 1)), (7, .ref (E.2.1 11 2)), (8, .ref (E.2.1 9 3)), (9, .int v104_6)]) [1, 2, 3, 4, 5, 6, 7, 8, 0] rfl ?_
        exact ih x1 v104_6
      · refine cr_iconst X (0 : Int32) (by decide) dL_told_102 ?_
        exact cr_zret X false rfl rfl rfl dL_told_103
set_option maxHeartbeats 4000000 in
set_option maxRecDepth 100000 in
theorem b_L_told_22 {Γ : cr_C} {E : cr_E} (X : cr_X Γ E cL_told 13 RL wsL_told rm_L_told (some .boolean)) (S : cr_S) : ∀ (n : Nat) (x1 : Int32) (x9 : Int32), cr_P Γ E 13 (cr_F Γ E (cr_vB S)) 0 0 S 22 ([(0, .ref (E.2.1 8 0)), (1, .int x1), (2, .ref (E.2.1 9 0)), (4, .ref (E.2.1 9 2)), (5, .ref (E.2.1 11 0)), (6, .ref (E.2.1 11 1)), (7, .ref (E.2.1 11 2)), (8, .ref (E.2.1 9 3)), (9, .int x9)]) ([]) (s_L_told_22 S n x1 x9) := by
  have hEK := X.2.2.2.2.2.2.1
  intro n
  induction n with
  | zero => intro x1 x9; exact cr_none
  | succ n ih =>
    intro x1 x9
    rw [s_L_told_22]
    refine cr_iload X 8 rfl dL_told_22 ?_
    refine cr_aload X 7 rfl dL_told_24 ?_
    refine cr_bipush X (8 : Int32) (by decide) dL_told_26 ?_
    refine cr_ialdk X 8 (by decide) (by decide) ((cr_n3 E (cr_g9 E)).at rfl rfl) dL_told_28 ?_
    refine cr_icmp_ge X 76 dL_told_29 rfl ?_ ?_
    · refine cr_iconst X (0 : Int32) (by decide) dL_told_76 ?_
      refine cr_istore X ([(9, .int ((0 : Int32))), (0, .ref (E.2.1 8 0)), (1, .int x1), (2, .ref (E.2.1 9 0)), (4, .ref (E.2.1 9 2)), (5, .ref (E.2.1 11 0)), (6, .ref (E.2.1 11 1)), (7, .ref (E.2.1 11 2)), (8, .ref (E.2.1 9 3))]) rfl (by decide) dL_told_77 ?_
      refine cr_sub (lv' := [(0, .ref (E.2.1 8 0)), (1, .int x1), (2, .ref (E.2.1 9 0)), (4, .ref (E.2.1 9 2)), (5, .ref (E.2.1 11 0)), (6, .ref (E.2.1 11 1)), (7, .ref (E.2.1 11 2)), (8, .ref (E.2.1 9 3)), (9, .int ((0 : Int32)))]) [1, 2, 3, 4, 5, 6, 7, 8, 0] rfl ?_
      exact b_L_told_79 X S 1200 x1 ((0 : Int32))
    · refine cr_aload_n X 0 rfl dL_told_32 ?_
      refine cr_iload X 8 rfl dL_told_33 ?_
      refine cr_iconst X (0 : Int32) (by decide) dL_told_35 ?_
      refine cr_callV X (As := [.int x9, .int ((0 : Int32))]) (rest := []) (c_X8_bog Γ.2.1 E hEK S x9 ((0 : Int32))) ((cr_b0 E).at rfl rfl) rfl 2 gL_told_X8_bog rfl rfl rfl (by decide +kernel) ⟨Nat.le_of_ble_eq_true rfl, Nat.le_of_ble_eq_true rfl⟩ (by decide) rfl rfl (Nat.le_of_ble_eq_true rfl) dL_told_36 (fun r36_2 => ?_)
      show cr_P Γ E 13 _ 0 0 S 39 ([(0, .ref (E.2.1 8 0)), (1, .int x1), (2, .ref (E.2.1 9 0)), (4, .ref (E.2.1 9 2)), (5, .ref (E.2.1 11 0)), (6, .ref (E.2.1 11 1)), (7, .ref (E.2.1 11 2)), (8, .ref (E.2.1 9 3)), (9, .int x9)]) ([.int r36_2]) _
      refine cr_aload X 6 rfl dL_told_39 ?_
      refine cr_iconst X (2 : Int32) (by decide) dL_told_41 ?_
      refine cr_iload X 8 rfl dL_told_42 ?_
      refine cr_imul X dL_told_44 ?_
      refine cr_iald X ((cr_k2 E).at rfl rfl) dL_told_45 ?_
      refine cr_icmp_ne X 68 dL_told_46 rfl ?_ ?_
      · refine cr_iconst X (0 : Int32) (by decide) dL_told_68 ?_
        exact cr_zret X false rfl rfl rfl dL_told_69
      · refine cr_aload_n X 0 rfl dL_told_49 ?_
        refine cr_iload X 8 rfl dL_told_50 ?_
        refine cr_iconst X (1 : Int32) (by decide) dL_told_52 ?_
        refine cr_callV X (As := [.int x9, .int ((1 : Int32))]) (rest := []) (c_X8_bog Γ.2.1 E hEK S x9 ((1 : Int32))) ((cr_b0 E).at rfl rfl) rfl 2 gL_told_X8_bog rfl rfl rfl (by decide +kernel) ⟨Nat.le_of_ble_eq_true rfl, Nat.le_of_ble_eq_true rfl⟩ (by decide) rfl rfl (Nat.le_of_ble_eq_true rfl) dL_told_53 (fun r53_3 => ?_)
        show cr_P Γ E 13 _ 0 0 S 56 ([(0, .ref (E.2.1 8 0)), (1, .int x1), (2, .ref (E.2.1 9 0)), (4, .ref (E.2.1 9 2)), (5, .ref (E.2.1 11 0)), (6, .ref (E.2.1 11 1)), (7, .ref (E.2.1 11 2)), (8, .ref (E.2.1 9 3)), (9, .int x9)]) ([.int r53_3]) _
        refine cr_aload X 6 rfl dL_told_56 ?_
        refine cr_iconst X (2 : Int32) (by decide) dL_told_58 ?_
        refine cr_iload X 8 rfl dL_told_59 ?_
        refine cr_imul X dL_told_61 ?_
        refine cr_iconst X (1 : Int32) (by decide) dL_told_62 ?_
        refine cr_iadd X dL_told_63 ?_
        refine cr_iald X ((cr_k2 E).at rfl rfl) dL_told_64 ?_
        refine cr_icmp_eq X 70 dL_told_65 rfl ?_ ?_
        · refine cr_iinc X (x9 + 1) (fun v70_4 => [(9, .int v70_4), (0, .ref (E.2.1 8 0)), (1, .int x1), (2, .ref (E.2.1 9 0)), (4, .ref (E.2.1 9 2)), (5, .ref (E.2.1 11 0)), (6, .ref (E.2.1 11 1)), (7, .ref (E.2.1 11 2)), (8, .ref (E.2.1 9 3))]) 8 rfl rfl (fun _ => rfl) (by decide) dL_told_70 (fun v70_4 => ?_)
          refine cr_goto X 22 dL_told_73 rfl ?_
          refine cr_sub (lv' := [(0, .ref (E.2.1 8 0)), (1, .int x1), (2, .ref (E.2.1 9 0)), (4, .ref (E.2.1 9 2)), (5, .ref (E.2.1 11 0)), (6, .ref (E.2.1 11 1)), (7, .ref (E.2.1 11 2)), (8, .ref (E.2.1 9 3)), (9, .int v70_4)]) [1, 2, 3, 4, 5, 6, 7, 8, 0] rfl ?_
          exact ih x1 v70_4
        · refine cr_iconst X (0 : Int32) (by decide) dL_told_68 ?_
          exact cr_zret X false rfl rfl rfl dL_told_69
set_option maxHeartbeats 4000000 in
set_option maxRecDepth 100000 in
theorem c_L_told (l : Launch) (E : cr_E) (hEK : cr_EK E) (S : cr_S) (p1 : Int32) : cr_M l E yL_told wsL_told rm_L_told [.ref (E.2.1 8 0), .int p1, .ref (E.2.1 9 0), .ref (E.2.1 9 1), .ref (E.2.1 9 2), .ref (E.2.1 11 0), .ref (E.2.1 11 1), .ref (E.2.1 11 2), .ref (E.2.1 9 3)] S (cr_vB S) (s_L_told S p1) := by
  refine cr_enter (cc := cL_told) (nL := 13) (rt := (some .boolean)) hEK (by decide) rfl (Nat.le_of_ble_eq_true rfl) (fun Γ hΓ X => ?_)
  subst hΓ
  have X : cr_X Γ E cL_told 13 RL wsL_told rm_L_told (some .boolean) := X
  unfold s_L_told
  show cr_P Γ E 13 _ 0 0 S 0 ([(0, .ref (E.2.1 8 0)), (1, .int p1), (2, .ref (E.2.1 9 0)), (3, .ref (E.2.1 9 1)), (4, .ref (E.2.1 9 2)), (5, .ref (E.2.1 11 0)), (6, .ref (E.2.1 11 1)), (7, .ref (E.2.1 11 2)), (8, .ref (E.2.1 9 3))]) [] _
  refine cr_aload_n X 0 rfl dL_told_0 ?_
  refine cr_aload_n X 2 rfl dL_told_1 ?_
  refine cr_aload_n X 3 rfl dL_told_2 ?_
  refine cr_aload X 4 rfl dL_told_3 ?_
  refine cr_aload X 5 rfl dL_told_5 ?_
  refine cr_aload X 6 rfl dL_told_7 ?_
  refine cr_aload X 8 rfl dL_told_9 ?_
  refine cr_callS X (As := [.ref (E.2.1 8 0), .ref (E.2.1 9 0), .ref (E.2.1 9 1), .ref (E.2.1 9 2), .ref (E.2.1 11 0), .ref (E.2.1 11 1), .ref (E.2.1 9 3)]) (rest := []) (c_L_turbines Γ.2.1 E hEK S) 7 gL_told_L_turbines rfl rfl rfl (by decide +kernel) ⟨Nat.le_of_ble_eq_true rfl, Nat.le_of_ble_eq_true rfl⟩ (by decide) rfl rfl (Nat.le_of_ble_eq_true rfl) dL_told_11 (fun r11_1 => ?_)
  show cr_P Γ E 13 _ 0 0 S 14 ([(0, .ref (E.2.1 8 0)), (1, .int p1), (2, .ref (E.2.1 9 0)), (3, .ref (E.2.1 9 1)), (4, .ref (E.2.1 9 2)), (5, .ref (E.2.1 11 0)), (6, .ref (E.2.1 11 1)), (7, .ref (E.2.1 11 2)), (8, .ref (E.2.1 9 3))]) ([.int (cr_b r11_1)]) _
  refine cr_ifb_ne X 19 dL_told_14 rfl ?_ ?_
  · refine cr_iconst X (0 : Int32) (by decide) dL_told_19 ?_
    refine cr_istore X ([(9, .int ((0 : Int32))), (0, .ref (E.2.1 8 0)), (1, .int p1), (2, .ref (E.2.1 9 0)), (3, .ref (E.2.1 9 1)), (4, .ref (E.2.1 9 2)), (5, .ref (E.2.1 11 0)), (6, .ref (E.2.1 11 1)), (7, .ref (E.2.1 11 2)), (8, .ref (E.2.1 9 3))]) rfl (by decide) dL_told_20 ?_
    refine cr_sub (lv' := [(0, .ref (E.2.1 8 0)), (1, .int p1), (2, .ref (E.2.1 9 0)), (4, .ref (E.2.1 9 2)), (5, .ref (E.2.1 11 0)), (6, .ref (E.2.1 11 1)), (7, .ref (E.2.1 11 2)), (8, .ref (E.2.1 9 3)), (9, .int ((0 : Int32)))]) [1, 2, 3, 5, 6, 7, 8, 9, 0] rfl ?_
    exact b_L_told_22 X S 1200 p1 ((0 : Int32))
  · refine cr_iconst X (0 : Int32) (by decide) dL_told_17 ?_
    exact cr_zret X false rfl rfl rfl dL_told_18
