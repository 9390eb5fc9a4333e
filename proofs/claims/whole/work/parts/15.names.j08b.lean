theorem ggd_0 : GoodIn wsL_law [.code yX8_digest cX8_digest 4 (some .long)] := goodIn_r _ [933] (by decide +kernel) (by decide +kernel)
set_option maxRecDepth 20000 in
theorem ggd_1 : GoodIn wsL_law wsX8_digest_r1 := goodIn_r _ [934, 17, 16, 24, 547, 935, 756, 757, 758, 2, 759, 760, 124, 375, 644, 645, 299, 300, 761, 762, 763, 349, 350, 20] (by decide +kernel) (by decide +kernel)
set_option maxRecDepth 20000 in
theorem ggd_2 : GoodIn wsL_law wsX8_digest_r2 := goodIn_r _ [764, 765, 766, 15, 767, 31, 30, 398, 768, 443, 444, 445, 51, 55, 446, 447, 448, 50, 449, 91, 90, 769, 400, 401] (by decide +kernel) (by decide +kernel)
set_option maxRecDepth 20000 in
theorem ggd_3 : GoodIn wsL_law wsX8_digest_r3 := goodIn_r _ [42, 402, 78, 77, 770, 771, 772, 46, 773, 86, 85, 774, 775, 776, 777, 54, 778, 779, 780, 781, 463, 936, 937, 938] (by decide +kernel) (by decide +kernel)
set_option maxRecDepth 20000 in
theorem ggd_4 : GoodIn wsL_law wsX8_digest_r4 := goodIn_r _ [939, 940, 941, 942, 943, 278, 718, 719, 241, 242, 731, 732, 744, 693, 694, 695, 696, 132, 697, 698, 474, 53, 43, 39] (by decide +kernel) (by decide +kernel)
set_option maxRecDepth 20000 in
theorem ggd_5 : GoodIn wsL_law wsX8_digest_r5 := goodIn_r _ [462, 407, 223, 224, 225, 450, 451, 452, 57, 453, 146, 483, 306, 307, 308, 438, 439, 440, 38, 441, 73, 71, 72, 442] (by decide +kernel) (by decide +kernel)
set_option maxRecDepth 20000 in
theorem ggd_6 : GoodIn wsL_law wsX8_digest_r6 := goodIn_r _ [464, 465, 466, 467, 147, 468, 389, 390, 391, 875, 876, 877, 878, 137, 138, 139, 140, 35, 47, 58, 59, 60, 61, 141] (by decide +kernel) (by decide +kernel)
set_option maxRecDepth 20000 in
theorem ggd_7 : GoodIn wsL_law wsX8_digest_r7 := goodIn_r _ [142, 143, 144, 145, 148, 149, 150, 151, 152, 153, 154, 34, 155, 65, 156, 66, 67, 157, 158, 159, 160, 161, 162, 163] (by decide +kernel) (by decide +kernel)
