theorem inlX0 : ∀ w ∈ wsX00, w ∈ wsL_law := fun _ h => List.mem_append_left _ (List.mem_append_left _ (List.mem_append_left _ (List.mem_append_left _ (List.mem_append_left _ (List.mem_append_left _ (List.mem_append_left _ (List.mem_append_left _ (List.mem_append_left _ (List.mem_append_right _ h)))))))))
theorem inlX1 : ∀ w ∈ wsX10, w ∈ wsL_law := fun _ h => List.mem_append_left _ (List.mem_append_left _ (List.mem_append_left _ (List.mem_append_left _ (List.mem_append_left _ (List.mem_append_left _ (List.mem_append_right _ h))))))
theorem inlX2 : ∀ w ∈ wsX20, w ∈ wsL_law := fun _ h => List.mem_append_left _ (List.mem_append_left _ (List.mem_append_left _ (List.mem_append_left _ (List.mem_append_left _ (List.mem_append_left _ (List.mem_append_left _ (List.mem_append_left _ (List.mem_append_left _ (List.mem_append_left _ (List.mem_append_left _ (List.mem_append_right _ h)))))))))))
theorem inlX3 : ∀ w ∈ wsX30, w ∈ wsL_law := fun _ h => List.mem_append_left _ (List.mem_append_left _ (List.mem_append_left _ (List.mem_append_left _ (List.mem_append_left _ (List.mem_append_left _ (List.mem_append_left _ (List.mem_append_left _ (List.mem_append_right _ h))))))))
theorem inlX4 : ∀ w ∈ wsX40, w ∈ wsL_law := fun _ h => List.mem_append_left _ (List.mem_append_left _ (List.mem_append_left _ (List.mem_append_left _ (List.mem_append_left _ (List.mem_append_left _ (List.mem_append_left _ (List.mem_append_right _ h)))))))
theorem inlX5 : ∀ w ∈ wsX50, w ∈ wsL_law := fun _ h => List.mem_append_left _ (List.mem_append_left _ (List.mem_append_left _ (List.mem_append_left _ (List.mem_append_right _ h))))
theorem inlX6 : ∀ w ∈ wsX60, w ∈ wsL_law := fun _ h => List.mem_append_left _ (List.mem_append_left _ (List.mem_append_left _ (List.mem_append_left _ (List.mem_append_left _ (List.mem_append_left _ (List.mem_append_left _ (List.mem_append_left _ (List.mem_append_left _ (List.mem_append_left _ (List.mem_append_right _ h))))))))))
theorem inlX7 : ∀ w ∈ wsX70, w ∈ wsL_law := fun _ h => List.mem_append_left _ (List.mem_append_left _ (List.mem_append_left _ (List.mem_append_left _ (List.mem_append_left _ (List.mem_append_right _ h)))))
theorem inlX8 : ∀ w ∈ wsX80, w ∈ wsL_law := fun _ h => List.mem_append_left _ (List.mem_append_left _ (List.mem_append_left _ (List.mem_append_left _ (List.mem_append_left _ (List.mem_append_left _ (List.mem_append_left _ (List.mem_append_left _ (List.mem_append_left _ (List.mem_append_left _ (List.mem_append_left _ (List.mem_append_left _ (List.mem_append_left _ (List.mem_append_right _ h)))))))))))))
theorem inlX9 : ∀ w ∈ wsX90, w ∈ wsL_law := fun _ h => List.mem_append_left _ (List.mem_append_left _ (List.mem_append_left _ (List.mem_append_left _ (List.mem_append_left _ (List.mem_append_left _ (List.mem_append_left _ (List.mem_append_left _ (List.mem_append_left _ (List.mem_append_left _ (List.mem_append_left _ (List.mem_append_left _ (List.mem_append_right _ h))))))))))))
set_option maxRecDepth 20000 in
theorem sp_wsX90 : GoodIn wsL_law wsX90 := fun w h => ⟨inlX9 w h, good_of_word (List.all_eq_true.mp (by decide +kernel) w h)⟩
theorem sp_pass_0 : GoodIn wsL_law [.code yX9_pass cX9_pass 2 (some .int)] := goodIn_r _ [495] (by decide +kernel) (by decide +kernel)
set_option maxRecDepth 20000 in
theorem sp_pass_1 : GoodIn wsL_law wsX9_pass_r1 := goodIn_r _ [188, 104, 189, 190, 5, 191, 192, 193, 194, 195, 196, 197, 198, 199, 200, 106, 496, 497, 498, 499, 500, 501, 502, 503] (by decide +kernel) (by decide +kernel)
set_option maxRecDepth 20000 in
theorem sp_pass_2 : GoodIn wsL_law wsX9_pass_r2 := goodIn_r _ [504, 505, 506, 507, 508, 509, 510, 511, 325, 326, 327, 328, 512, 513, 514, 515, 516, 517, 518, 519, 520, 521, 522, 523] (by decide +kernel) (by decide +kernel)
set_option maxRecDepth 20000 in
theorem sp_pass_3 : GoodIn wsL_law wsX9_pass_r3 := goodIn_r _ [524, 525, 526, 527, 528, 529, 530, 531, 532, 533, 534, 535, 536, 537, 538, 539] (by decide +kernel) (by decide +kernel)
set_option maxRecDepth 20000 in
theorem ggL_law_X9_pass : GoodIn wsL_law wsX9_pass := fun w h => (List.mem_cons.mp h).elim (fun e => sp_pass_0 w (List.mem_cons.mpr (Or.inl e))) ((goodIn_app (goodIn_app sp_pass_1 (goodIn_app sp_pass_2 (sp_pass_3))) sp_wsX90) w)
theorem sp_ifPassed_0 : GoodIn wsL_law [.code yX9_ifPassed cX9_ifPassed 3 (some .int)] := goodIn_r _ [838] (by decide +kernel) (by decide +kernel)
set_option maxRecDepth 20000 in
theorem sp_ifPassed_1 : GoodIn wsL_law wsX9_ifPassed_r1 := goodIn_r _ [188, 189, 190, 5, 191, 839, 840, 841, 842, 843, 844, 845, 846, 105, 104, 496, 497, 498, 499, 500, 501, 502, 503, 504] (by decide +kernel) (by decide +kernel)
set_option maxRecDepth 20000 in
theorem sp_ifPassed_2 : GoodIn wsL_law wsX9_ifPassed_r2 := goodIn_r _ [505, 506, 507, 508, 509, 510, 511, 325, 326, 327, 328, 512, 513, 514, 515, 516, 517, 518, 519, 520, 521, 522, 523, 524] (by decide +kernel) (by decide +kernel)
set_option maxRecDepth 20000 in
theorem sp_ifPassed_3 : GoodIn wsL_law wsX9_ifPassed_r3 := goodIn_r _ [525, 526, 527, 528, 529, 530, 531, 532, 533, 534, 535, 536, 537, 538, 539, 847, 848, 849, 850, 794, 795, 796, 797, 790] (by decide +kernel) (by decide +kernel)
set_option maxRecDepth 20000 in
theorem sp_ifPassed_4 : GoodIn wsL_law wsX9_ifPassed_r4 := goodIn_r _ [791, 792, 793, 851, 852, 853, 854, 192, 193, 194, 195] (by decide +kernel) (by decide +kernel)
set_option maxRecDepth 20000 in
theorem ggL_law_X9_ifPassed : GoodIn wsL_law wsX9_ifPassed := fun w h => (List.mem_cons.mp h).elim (fun e => sp_ifPassed_0 w (List.mem_cons.mpr (Or.inl e))) ((goodIn_app (goodIn_app sp_ifPassed_1 (goodIn_app sp_ifPassed_2 (goodIn_app sp_ifPassed_3 (sp_ifPassed_4)))) sp_wsX90) w)
theorem sp_bestFirst_0 : GoodIn wsL_law [.code yX9_bestFirst cX9_bestFirst 1 (some .int)] := goodIn_r _ [863] (by decide +kernel) (by decide +kernel)
set_option maxRecDepth 20000 in
theorem sp_bestFirst_1 : GoodIn wsL_law wsX9_bestFirst_r1 := goodIn_r _ [188, 864, 865, 866, 5, 867, 104, 105, 843, 844, 845, 846, 496, 497, 498, 499, 500, 501, 502, 503, 504, 505, 506, 507] (by decide +kernel) (by decide +kernel)
set_option maxRecDepth 20000 in
theorem sp_bestFirst_2 : GoodIn wsL_law wsX9_bestFirst_r2 := goodIn_r _ [508, 509, 510, 511, 325, 326, 327, 328, 512, 513, 514, 515, 516, 517, 518, 519, 520, 521, 522, 523, 524, 525, 526, 527] (by decide +kernel) (by decide +kernel)
set_option maxRecDepth 20000 in
theorem sp_bestFirst_3 : GoodIn wsL_law wsX9_bestFirst_r3 := goodIn_r _ [528, 529, 530, 531, 532, 533, 534, 535, 536, 537, 538, 539, 189, 190, 191, 851, 852, 853, 854] (by decide +kernel) (by decide +kernel)
set_option maxRecDepth 20000 in
theorem ggL_law_X9_bestFirst : GoodIn wsL_law wsX9_bestFirst := fun w h => (List.mem_cons.mp h).elim (fun e => sp_bestFirst_0 w (List.mem_cons.mpr (Or.inl e))) ((goodIn_app (goodIn_app sp_bestFirst_1 (goodIn_app sp_bestFirst_2 (sp_bestFirst_3))) sp_wsX90) w)
theorem sp_doneIn_0 : GoodIn wsL_law [.code yX9_doneIn cX9_doneIn 1 (some .int)] := goodIn_r _ [895] (by decide +kernel) (by decide +kernel)
set_option maxRecDepth 20000 in
theorem sp_doneIn_1 : GoodIn wsL_law wsX9_doneIn_r1 := goodIn_r _ [188, 896, 897, 898, 5, 899, 104, 843, 844, 845, 846, 105, 500, 501, 502, 503, 504, 505, 506, 507, 508, 509, 510, 511] (by decide +kernel) (by decide +kernel)
set_option maxRecDepth 20000 in
theorem sp_doneIn_2 : GoodIn wsL_law wsX9_doneIn_r2 := goodIn_r _ [325, 326, 327, 328, 512, 513, 514, 515, 516, 517, 518, 519, 520, 521, 522, 523, 524, 525, 526, 527, 528, 529, 530, 531] (by decide +kernel) (by decide +kernel)
set_option maxRecDepth 20000 in
theorem sp_doneIn_3 : GoodIn wsL_law wsX9_doneIn_r3 := goodIn_r _ [532, 533, 534, 535, 536, 537, 538, 539, 189, 190, 191, 851, 852, 853, 854] (by decide +kernel) (by decide +kernel)
set_option maxRecDepth 20000 in
theorem ggL_law_X9_doneIn : GoodIn wsL_law wsX9_doneIn := fun w h => (List.mem_cons.mp h).elim (fun e => sp_doneIn_0 w (List.mem_cons.mpr (Or.inl e))) ((goodIn_app (goodIn_app sp_doneIn_1 (goodIn_app sp_doneIn_2 (sp_doneIn_3))) sp_wsX90) w)
