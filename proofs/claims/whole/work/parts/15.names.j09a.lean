set_option maxRecDepth 20000 in
theorem gL_law_X8_digest : GoodIn wsL_law (wsV RL 178 RX8 yX8_digest wsX8_digest) := goodIn_app (goodIn_of _ (by decide +kernel)) ggL_law_X8_digest
theorem gge_0 : GoodIn wsL_law [.code yX9_digest cX9_digest 3 (some .long)] := goodIn_r _ [961] (by decide +kernel) (by decide +kernel)
set_option maxRecDepth 20000 in
theorem gge_1 : GoodIn wsL_law wsX9_digest_r1 := goodIn_r _ [188, 962, 963, 104, 561, 107, 786, 787, 788, 5, 789, 200, 790, 791, 792, 793, 512, 513, 514, 515, 794, 795, 796, 797] (by decide +kernel) (by decide +kernel)
set_option maxRecDepth 20000 in
theorem gge_2 : GoodIn wsL_law wsX9_digest_r2 := goodIn_r _ [964, 965, 966, 967, 968, 703, 704, 705, 706, 528, 529, 530, 531, 321, 322, 323, 324, 707, 708, 709, 710, 532, 533, 534] (by decide +kernel) (by decide +kernel)
set_option maxRecDepth 20000 in
theorem gge_3 : GoodIn wsL_law wsX9_digest_r3 := goodIn_r _ [535, 883, 884, 885, 886, 839, 840, 841, 842, 843, 844, 845, 846, 105, 496, 497, 498, 499, 500, 501, 502, 503, 504, 505] (by decide +kernel) (by decide +kernel)
set_option maxRecDepth 20000 in
theorem gge_4 : GoodIn wsL_law wsX9_digest_r4 := goodIn_r _ [506, 507, 508, 509, 510, 511, 325, 326, 327, 328, 516, 517, 518, 519, 520, 521, 522, 523, 524, 525, 526, 527, 536, 537] (by decide +kernel) (by decide +kernel)
set_option maxRecDepth 20000 in
theorem gge_5 : GoodIn wsL_law wsX9_digest_r5 := goodIn_r _ [538, 539, 189, 190, 191, 847, 848, 849, 850, 851, 852, 853, 854, 864, 865, 866, 867, 896, 897, 898, 899, 913, 914, 915] (by decide +kernel) (by decide +kernel)
set_option maxRecDepth 20000 in
theorem gge_6 : GoodIn wsL_law wsX9_digest_r6 := goodIn_r _ [916, 917, 969, 970, 971, 972, 973, 974, 975, 976, 977, 978, 979, 980, 926, 927, 928, 929, 981, 982, 983, 984, 985, 986] (by decide +kernel) (by decide +kernel)
set_option maxRecDepth 20000 in
theorem gge_7 : GoodIn wsL_law wsX9_digest_r7 := goodIn_r _ [987, 988, 989, 990, 991, 992] (by decide +kernel) (by decide +kernel)
set_option maxRecDepth 20000 in
theorem gge_wsX90 : GoodIn wsL_law wsX90 := fun w h => ⟨inlX9 w h, good_of_word (List.all_eq_true.mp (by decide +kernel) w h)⟩
set_option maxRecDepth 20000 in
theorem ggL_law_X9_digest : GoodIn wsL_law wsX9_digest := fun w h => (List.mem_cons.mp h).elim (fun e => gge_0 w (List.mem_cons.mpr (Or.inl e))) ((goodIn_app (goodIn_app gge_1 (goodIn_app gge_2 (goodIn_app gge_3 (goodIn_app gge_4 (goodIn_app gge_5 (goodIn_app gge_6 (gge_7))))))) gge_wsX90) w)
set_option maxRecDepth 20000 in
theorem gL_law_X9_digest : GoodIn wsL_law (wsV RL 182 RX9 yX9_digest wsX9_digest) := goodIn_app (goodIn_of _ (by decide +kernel)) ggL_law_X9_digest
