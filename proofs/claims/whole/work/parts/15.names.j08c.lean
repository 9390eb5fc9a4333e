set_option maxRecDepth 20000 in
theorem ggd_8 : GoodIn wsL_law wsX8_digest_r8 := goodIn_r _ [164, 165, 166, 167, 168, 169, 170, 82, 83, 84, 171, 172, 173, 174, 175, 376, 377, 378, 379, 380, 381, 382, 383, 384] (by decide +kernel) (by decide +kernel)
set_option maxRecDepth 20000 in
theorem ggd_9 : GoodIn wsL_law wsX8_digest_r9 := goodIn_r _ [385, 386, 387, 388, 392, 393, 394, 395, 396, 397, 399, 403, 404, 405, 406, 408, 314, 315, 316, 409, 410, 411, 412, 413] (by decide +kernel) (by decide +kernel)
set_option maxRecDepth 20000 in
theorem ggd_10 : GoodIn wsL_law wsX8_digest_r10 := goodIn_r _ [414, 415, 416, 417, 418, 419, 420, 421, 422, 423, 424, 425, 426, 427, 428, 429, 430, 431, 432, 433, 434, 435, 436, 437] (by decide +kernel) (by decide +kernel)
set_option maxRecDepth 20000 in
theorem ggd_11 : GoodIn wsL_law wsX8_digest_r11 := goodIn_r _ [454, 455, 456, 457, 458, 459, 460, 461, 469, 470, 471, 472, 473, 475, 476, 477, 478, 479, 480, 481, 482, 484, 485, 486] (by decide +kernel) (by decide +kernel)
set_option maxRecDepth 20000 in
theorem ggd_12 : GoodIn wsL_law wsX8_digest_r12 := goodIn_r _ [487, 488, 489, 490, 491, 828, 829, 830, 831, 832, 833, 834, 944, 856, 857, 858, 859, 309, 310, 311, 312, 305, 313, 945] (by decide +kernel) (by decide +kernel)
set_option maxRecDepth 20000 in
theorem ggd_13 : GoodIn wsL_law wsX8_digest_r13 := goodIn_r _ [888, 889, 890, 891, 946, 901, 902, 903, 904, 905, 906, 907, 908, 947, 948, 949, 950, 951, 919, 920, 921, 952, 953, 954] (by decide +kernel) (by decide +kernel)
set_option maxRecDepth 20000 in
theorem ggd_14 : GoodIn wsL_law wsX8_digest_r14 := goodIn_r _ [955, 956, 957] (by decide +kernel) (by decide +kernel)
set_option maxRecDepth 20000 in
theorem ggp_wsX80 : GoodIn wsL_law wsX80 := fun w h => ⟨inlX8 w h, good_of_word (List.all_eq_true.mp (by decide +kernel) w h)⟩
set_option maxRecDepth 20000 in
theorem ggp_wsX60 : GoodIn wsL_law wsX60 := fun w h => ⟨inlX6 w h, good_of_word (List.all_eq_true.mp (by decide +kernel) w h)⟩
set_option maxRecDepth 20000 in
theorem ggp_wsX20 : GoodIn wsL_law wsX20 := fun w h => ⟨inlX2 w h, good_of_word (List.all_eq_true.mp (by decide +kernel) w h)⟩
set_option maxRecDepth 20000 in
theorem ggp_wsX70 : GoodIn wsL_law wsX70 := fun w h => ⟨inlX7 w h, good_of_word (List.all_eq_true.mp (by decide +kernel) w h)⟩
set_option maxRecDepth 20000 in
theorem ggp_wsX40 : GoodIn wsL_law wsX40 := fun w h => ⟨inlX4 w h, good_of_word (List.all_eq_true.mp (by decide +kernel) w h)⟩
set_option maxRecDepth 20000 in
theorem ggp_wsX10 : GoodIn wsL_law wsX10 := fun w h => ⟨inlX1 w h, good_of_word (List.all_eq_true.mp (by decide +kernel) w h)⟩
set_option maxRecDepth 20000 in
theorem ggp_wsX30 : GoodIn wsL_law wsX30 := fun w h => ⟨inlX3 w h, good_of_word (List.all_eq_true.mp (by decide +kernel) w h)⟩
set_option maxRecDepth 20000 in
theorem ggp_wsX50 : GoodIn wsL_law wsX50 := fun w h => ⟨inlX5 w h, good_of_word (List.all_eq_true.mp (by decide +kernel) w h)⟩
set_option maxRecDepth 20000 in
theorem ggp_wsX00 : GoodIn wsL_law wsX00 := fun w h => ⟨inlX0 w h, good_of_word (List.all_eq_true.mp (by decide +kernel) w h)⟩
set_option maxRecDepth 20000 in
theorem ggL_law_X8_digest : GoodIn wsL_law wsX8_digest := fun w h => (List.mem_cons.mp h).elim (fun e => ggd_0 w (List.mem_cons.mpr (Or.inl e))) ((goodIn_app (goodIn_app (goodIn_app (goodIn_app (goodIn_app (goodIn_app (goodIn_app (goodIn_app (goodIn_app (goodIn_app ggd_1 (goodIn_app ggd_2 (goodIn_app ggd_3 (goodIn_app ggd_4 (goodIn_app ggd_5 (goodIn_app ggd_6 (goodIn_app ggd_7 (goodIn_app ggd_8 (goodIn_app ggd_9 (goodIn_app ggd_10 (goodIn_app ggd_11 (goodIn_app ggd_12 (goodIn_app ggd_13 (ggd_14)))))))))))))) ggp_wsX80) ggp_wsX60) ggp_wsX20) ggp_wsX70) ggp_wsX40) ggp_wsX10) ggp_wsX30) ggp_wsX50) ggp_wsX00) w)
