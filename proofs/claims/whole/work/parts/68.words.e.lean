/-! ### the law's words in the tables: all -/
set_option maxRecDepth 20000 in
theorem lp_X8 : GoodIn lw_tbl wsX80 := goodIn_p _ [] (by decide +kernel) (by decide +kernel)
set_option maxRecDepth 20000 in
theorem lp_X9 : GoodIn lw_tbl wsX90 := goodIn_p _ [] (by decide +kernel) (by decide +kernel)
set_option maxRecDepth 20000 in
theorem lp_X2 : GoodIn lw_tbl wsX20 := goodIn_p _ [] (by decide +kernel) (by decide +kernel)
set_option maxRecDepth 20000 in
theorem lp_X6 : GoodIn lw_tbl wsX60 := goodIn_p _ [] (by decide +kernel) (by decide +kernel)
set_option maxRecDepth 20000 in
theorem lp_X0 : GoodIn lw_tbl wsX00 := goodIn_p _ [] (by decide +kernel) (by decide +kernel)
set_option maxRecDepth 20000 in
theorem lp_X3 : GoodIn lw_tbl wsX30 := goodIn_p _ [] (by decide +kernel) (by decide +kernel)
set_option maxRecDepth 20000 in
theorem lp_X4 : GoodIn lw_tbl wsX40 := goodIn_p _ [] (by decide +kernel) (by decide +kernel)
set_option maxRecDepth 20000 in
theorem lp_X1 : GoodIn lw_tbl wsX10 := goodIn_p _ [] (by decide +kernel) (by decide +kernel)
set_option maxRecDepth 20000 in
theorem lp_X7 : GoodIn lw_tbl wsX70 := goodIn_p _ [] (by decide +kernel) (by decide +kernel)
set_option maxRecDepth 20000 in
theorem lp_X5 : GoodIn lw_tbl wsX50 := goodIn_p _ [] (by decide +kernel) (by decide +kernel)
theorem lr_all : GoodIn lw_tbl wsL_law0 := goodIn_app (goodIn_app (goodIn_app (goodIn_app (goodIn_app (goodIn_app (goodIn_app (goodIn_app (goodIn_app (goodIn_app (goodIn_app (goodIn_app lr_1 (goodIn_app lr_2 (goodIn_app lr_3 (goodIn_app lr_4 (goodIn_app lr_5 (goodIn_app lr_6 (goodIn_app lr_7 (goodIn_app lr_8 (goodIn_app lr_9 (goodIn_app lr_10 (goodIn_app lr_11 (goodIn_app lr_12 (goodIn_app lr_13 (goodIn_app lr_14 (goodIn_app lr_15 (goodIn_app lr_16 (goodIn_app lr_17 (goodIn_app lr_18 (goodIn_app lr_19 (goodIn_app lr_20 (goodIn_app lr_21 (goodIn_app lr_22 (goodIn_app lr_23 (goodIn_app lr_24 (goodIn_app lr_25 (goodIn_app lr_26 (goodIn_app lr_27 (goodIn_app lr_28 (goodIn_app lr_29 (goodIn_app lr_30 (goodIn_app lr_31 (goodIn_app lr_32 (goodIn_app lr_33 (goodIn_app lr_34 (goodIn_app lr_35 (goodIn_app lr_36 (goodIn_app lr_37 (goodIn_app lr_38 (goodIn_app lr_39 (goodIn_app lr_40 (goodIn_app lr_41 (lr_42)))))))))))))))))))))))))))))))))))))))))) lp_X8) lp_X9) lp_X2) lp_X6) lp_X0) lp_X3) lp_X4) lp_X1) lp_X7) lp_X5) (fun w h => absurd h List.not_mem_nil)
set_option maxRecDepth 20000 in
theorem lx_0 : ∀ w ∈ (vx_atS RX8 45 "java/lang/IllegalArgumentException" ["java/lang/RuntimeException", "java/lang/Exception"]).filter goodWord, w ∈ lw_tbl := by decide +kernel
set_option maxRecDepth 20000 in
theorem lx_1 : ∀ w ∈ (vx_atS RX8 59 "java/lang/IllegalStateException" ["java/lang/RuntimeException", "java/lang/Exception"]).filter goodWord, w ∈ lw_tbl := by decide +kernel
set_option maxRecDepth 20000 in
theorem lx_2 : ∀ w ∈ (vx_atS RX8 138 "java/lang/IndexOutOfBoundsException" ["java/lang/RuntimeException", "java/lang/Exception"]).filter goodWord, w ∈ lw_tbl := by decide +kernel
theorem lw_words : ∀ w ∈ wsL_law, w ∈ lw_tbl := fun w h => (List.mem_append.mp h).elim (fun h => (List.mem_append.mp h).elim (fun h => (List.mem_append.mp h).elim (fun h => (lr_all w h).1) (fun h => lx_0 w h)) (fun h => lx_1 w h)) (fun h => lx_2 w h)
