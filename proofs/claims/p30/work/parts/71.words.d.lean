/-! ### the law's words in the tables: all -/
set_option maxRecDepth 20000 in
theorem lp_wsX80 : GoodIn lw_tbl wsX80 := goodIn_p _ [] (by decide +kernel) (by decide +kernel)
set_option maxRecDepth 20000 in
theorem lp_wsX20 : GoodIn lw_tbl wsX20 := goodIn_p _ [] (by decide +kernel) (by decide +kernel)
set_option maxRecDepth 20000 in
theorem lp_wsX60 : GoodIn lw_tbl wsX60 := goodIn_p _ [] (by decide +kernel) (by decide +kernel)
set_option maxRecDepth 20000 in
theorem lp_wsX00 : GoodIn lw_tbl wsX00 := goodIn_p _ [] (by decide +kernel) (by decide +kernel)
set_option maxRecDepth 20000 in
theorem lp_wsX30 : GoodIn lw_tbl wsX30 := goodIn_p _ [] (by decide +kernel) (by decide +kernel)
set_option maxRecDepth 20000 in
theorem lp_wsX40 : GoodIn lw_tbl wsX40 := goodIn_p _ [] (by decide +kernel) (by decide +kernel)
set_option maxRecDepth 20000 in
theorem lp_wsX10 : GoodIn lw_tbl wsX10 := goodIn_p _ [] (by decide +kernel) (by decide +kernel)
set_option maxRecDepth 20000 in
theorem lp_wsX70 : GoodIn lw_tbl wsX70 := goodIn_p _ [] (by decide +kernel) (by decide +kernel)
set_option maxRecDepth 20000 in
theorem lp_wsX50 : GoodIn lw_tbl wsX50 := goodIn_p _ [] (by decide +kernel) (by decide +kernel)
theorem lr_all : GoodIn lw_tbl wsL_law0 := goodIn_app (goodIn_app (goodIn_app (goodIn_app (goodIn_app (goodIn_app (goodIn_app (goodIn_app (goodIn_app (goodIn_app (goodIn_app lr_1 (goodIn_app lr_2 (goodIn_app lr_3 (goodIn_app lr_4 (goodIn_app lr_5 (goodIn_app lr_6 (goodIn_app lr_7 (goodIn_app lr_8 (goodIn_app lr_9 (goodIn_app lr_10 (goodIn_app lr_11 (goodIn_app lr_12 (goodIn_app lr_13 (goodIn_app lr_14 (goodIn_app lr_15 (goodIn_app lr_16 (goodIn_app lr_17 (goodIn_app lr_18 (goodIn_app lr_19 (goodIn_app lr_20 (goodIn_app lr_21 (goodIn_app lr_22 (goodIn_app lr_23 (goodIn_app lr_24 (goodIn_app lr_25 (goodIn_app lr_26 (lr_27))))))))))))))))))))))))))) lp_wsX80) lp_wsX20) lp_wsX60) lp_wsX00) lp_wsX30) lp_wsX40) lp_wsX10) lp_wsX70) lp_wsX50) (fun w h => absurd h List.not_mem_nil)
theorem lw_words : ∀ w ∈ wsL_law0, w ∈ lw_tbl := fun w h => (lr_all w h).1
