def s_L_addTurbine (p1 : Int32) (p2 : Int32) (p3 : Int32) (S : cr_S) : Option (Int32 × cr_S) := (cr_clc (s_X8_addTurbine S p1 p2 p3) (fun C9 => (if C9 = "java/lang/IllegalArgumentException" then (some ((1 : Int32), S)) else if C9 = "java/lang/IllegalStateException" then (some ((2 : Int32), S)) else none)) (fun r7_1 => (cr_gd (cr_in ((0 : Int32)) 1) (cr_bd (cr_ul r7_1.2 (((0 : Int32)).toNatClampNeg + 1) (((r7_1.1).toInt64))) (fun S11_2 => (some ((0 : Int32), S11_2)))))))
def s_L_append (p1 : Int32) (S : cr_S) : Option (Int32 × cr_S) := (cr_clc (s_X8_append S p1) (fun C9 => (if C9 = "java/lang/IllegalArgumentException" then (some ((1 : Int32), S)) else if C9 = "java/lang/IllegalStateException" then (some ((2 : Int32), S)) else none)) (fun r4_1 => (cr_gd (cr_in ((0 : Int32)) 1) (cr_bd (cr_ul r4_1.2 (((0 : Int32)).toNatClampNeg + 1) (((r4_1.1).toInt64))) (fun S8_2 => (some ((0 : Int32), S8_2)))))))
def s_L_blade (p1 : Int32) (p2 : Int32) (S : cr_S) : Option (Int32 × cr_S) := (cr_clc (s_X8_blade S p1 p2) (fun C9 => (if C9 = "java/lang/IndexOutOfBoundsException" then (some ((1 : Int32), S)) else if C9 = "java/lang/IllegalArgumentException" then (some ((2 : Int32), S)) else none)) (fun r5_1 => (cr_gd (cr_in ((0 : Int32)) 1) (cr_bd (cr_ul S (((0 : Int32)).toNatClampNeg + 1) (((r5_1).toInt64))) (fun S9_2 => (some ((0 : Int32), S9_2)))))))
def s_L_bog (p1 : Int32) (p2 : Int32) (S : cr_S) : Option (Int32 × cr_S) := (cr_clc (s_X8_bog S p1 p2) (fun C9 => (if C9 = "java/lang/IndexOutOfBoundsException" then (some ((1 : Int32), S)) else if C9 = "java/lang/IllegalArgumentException" then (some ((2 : Int32), S)) else none)) (fun r5_1 => (cr_gd (cr_in ((0 : Int32)) 1) (cr_bd (cr_ul S (((0 : Int32)).toNatClampNeg + 1) (((r5_1).toInt64))) (fun S9_2 => (some ((0 : Int32), S9_2)))))))
def s_L_claims (p1 : Int32) (S : cr_S) : Option (Int32 × cr_S) := (cr_clc (s_X8_claims S p1) (fun C9 => (if C9 = "java/lang/IllegalArgumentException" then (some ((1 : Int32), S)) else none)) (fun r4_1 => (cr_gd (cr_in ((0 : Int32)) 1) (cr_bd (cr_ul S (((0 : Int32)).toNatClampNeg + 1) (((r4_1).toInt64))) (fun S8_2 => (some ((0 : Int32), S8_2)))))))
def s_L_count (p1 : Int32) (S : cr_S) : Option (Int32 × cr_S) := (cr_clc (s_X8_count S p1) (fun C9 => (if C9 = "java/lang/IllegalArgumentException" then (some ((1 : Int32), S)) else none)) (fun r4_1 => (cr_gd (cr_in ((0 : Int32)) 1) (cr_bd (cr_ul S (((0 : Int32)).toNatClampNeg + 1) (((r4_1).toInt64))) (fun S8_2 => (some ((0 : Int32), S8_2)))))))
def s_L_ifPassed (p1 : Int32) (p2 : Int32) (S : cr_S) : Option (Int32 × cr_S) := (cr_clc (s_X8_ifPassed S p1 p2) (fun C9 => (if C9 = "java/lang/IllegalArgumentException" then (some ((1 : Int32), S)) else none)) (fun r5_1 => (cr_gd (cr_in ((0 : Int32)) 1) (cr_bd (cr_ul r5_1.2 (((0 : Int32)).toNatClampNeg + 1) (((r5_1.1).toInt64))) (fun S9_2 => (some ((0 : Int32), S9_2)))))))
def s_L_load (S : cr_S) : Option (Int32 × cr_S) := (cr_clc (s_X8_load S) (fun C9 => (if C9 = "java/lang/IllegalArgumentException" then (some ((1 : Int32), S)) else if C9 = "java/lang/IllegalStateException" then (some ((2 : Int32), S)) else none)) (fun r3_1 => (cr_gd (cr_in ((0 : Int32)) 1) (cr_bd (cr_ul r3_1.2 (((0 : Int32)).toNatClampNeg + 1) (((r3_1.1).toInt64))) (fun S7_2 => (some ((0 : Int32), S7_2)))))))
def s_L_orderBlade (p1 : Int32) (S : cr_S) : Option (Int32 × cr_S) := (cr_clc (s_X8_orderBlade S p1) (fun C9 => (if C9 = "java/lang/IndexOutOfBoundsException" then (some ((1 : Int32), S)) else if C9 = "java/lang/IllegalStateException" then (some ((2 : Int32), S)) else none)) (fun r4_1 => (cr_gd (cr_in ((0 : Int32)) 1) (cr_bd (cr_ul r4_1.2 (((0 : Int32)).toNatClampNeg + 1) (((r4_1.1).toInt64))) (fun S8_2 => (some ((0 : Int32), S8_2)))))))
def s_L_pass (p1 : Int32) (S : cr_S) : Option (Int32 × cr_S) := (cr_clc (s_X8_pass S p1) (fun C9 => (if C9 = "java/lang/IllegalArgumentException" then (some ((1 : Int32), S)) else if C9 = "java/lang/IllegalStateException" then (some ((2 : Int32), S)) else none)) (fun r4_1 => (cr_gd (cr_in ((0 : Int32)) 1) (cr_bd (cr_ul r4_1.2 (((0 : Int32)).toNatClampNeg + 1) (((r4_1.1).toInt64))) (fun S8_2 => (some ((0 : Int32), S8_2)))))))
def s_L_plan (p1 : Int32) (p2 : Int32) (S : cr_S) : Option (Int32 × cr_S) := (cr_clc (s_X8_plan S p1 p2) (fun C9 => (if C9 = "java/lang/IndexOutOfBoundsException" then (some ((1 : Int32), S)) else none)) (fun r5_1 => (cr_gd (cr_in ((0 : Int32)) 1) (cr_bd (cr_ul r5_1.2 (((0 : Int32)).toNatClampNeg + 1) (((r5_1.1).toInt64))) (fun S9_2 => (some ((0 : Int32), S9_2)))))))
def s_L_set (p1 : Int32) (p2 : Int32) (S : cr_S) : Option (Int32 × cr_S) := (cr_clc (s_X8_set S p1 p2) (fun C9 => (if C9 = "java/lang/IndexOutOfBoundsException" then (some ((1 : Int32), S)) else if C9 = "java/lang/IllegalArgumentException" then (some ((2 : Int32), S)) else none)) (fun r5_1 => (cr_gd (cr_in ((0 : Int32)) 1) (cr_bd (cr_ul r5_1.2 (((0 : Int32)).toNatClampNeg + 1) (((r5_1.1).toInt64))) (fun S9_2 => (some ((0 : Int32), S9_2)))))))
def s_L_setBog (p1 : Int32) (p2 : Int32) (S : cr_S) : Option (Int32 × cr_S) := (cr_clc (s_X8_setBog S p1 p2) (fun C9 => (if C9 = "java/lang/IllegalArgumentException" then (some ((1 : Int32), S)) else if C9 = "java/lang/IllegalStateException" then (some ((2 : Int32), S)) else none)) (fun r5_1 => (cr_gd (cr_in ((0 : Int32)) 1) (cr_bd (cr_ul r5_1.2 (((0 : Int32)).toNatClampNeg + 1) (((r5_1.1).toInt64))) (fun S9_2 => (some ((0 : Int32), S9_2)))))))
def s_L_setFault (p1 : Int32) (p2 : Int32) (S : cr_S) : Option (Int32 × cr_S) := (cr_clc (s_X8_setFault S p1 p2) (fun C9 => (if C9 = "java/lang/IndexOutOfBoundsException" then (some ((1 : Int32), S)) else if C9 = "java/lang/IllegalArgumentException" then (some ((2 : Int32), S)) else none)) (fun r5_1 => (cr_gd (cr_in ((0 : Int32)) 1) (cr_bd (cr_ul r5_1.2 (((0 : Int32)).toNatClampNeg + 1) (((r5_1.1).toInt64))) (fun S9_2 => (some ((0 : Int32), S9_2)))))))
def s_L_setting (p1 : Int32) (S : cr_S) : Option (Int32 × cr_S) := (cr_clc (s_X8_setting S p1) (fun C9 => (if C9 = "java/lang/IndexOutOfBoundsException" then (some ((1 : Int32), S)) else none)) (fun r4_1 => (cr_gd (cr_in ((0 : Int32)) 1) (cr_bd (cr_ul S (((0 : Int32)).toNatClampNeg + 1) (((r4_1).toInt64))) (fun S8_2 => (some ((0 : Int32), S8_2)))))))
def s_L_turbine (p1 : Int32) (p2 : Int32) (S : cr_S) : Option (Int32 × cr_S) := (cr_clc (s_X8_turbine S p1 p2) (fun C9 => (if C9 = "java/lang/IndexOutOfBoundsException" then (some ((1 : Int32), S)) else if C9 = "java/lang/IllegalArgumentException" then (some ((2 : Int32), S)) else none)) (fun r5_1 => (cr_gd (cr_in ((0 : Int32)) 1) (cr_bd (cr_ul S (((0 : Int32)).toNatClampNeg + 1) (((r5_1).toInt64))) (fun S9_2 => (some ((0 : Int32), S9_2)))))))
def s_L_undo (S : cr_S) : Option (Int32 × cr_S) := (cr_clc (s_X8_undo S) (fun C9 => (if C9 = "java/lang/IllegalStateException" then (some ((1 : Int32), S)) else none)) (fun r3_1 => (cr_gd (cr_in ((0 : Int32)) 1) (cr_bd (cr_ul r3_1.2 (((0 : Int32)).toNatClampNeg + 1) (((r3_1.1).toInt64))) (fun S7_2 => (some ((0 : Int32), S7_2)))))))
def s_L_unplan (p1 : Int32) (S : cr_S) : Option (Int32 × cr_S) := (cr_clc (s_X8_unplan S p1) (fun C9 => (if C9 = "java/lang/IndexOutOfBoundsException" then (some ((1 : Int32), S)) else if C9 = "java/lang/IllegalStateException" then (some ((2 : Int32), S)) else none)) (fun r4_1 => (cr_gd (cr_in ((0 : Int32)) 1) (cr_bd (cr_ul r4_1.2 (((0 : Int32)).toNatClampNeg + 1) (((r4_1.1).toInt64))) (fun S8_2 => (some ((0 : Int32), S8_2)))))))
def s_L_way (p1 : Int32) (p2 : Int32) (S : cr_S) : Option (Int32 × cr_S) := (cr_clc (s_X8_way S p1 p2) (fun C9 => (if C9 = "java/lang/IllegalArgumentException" then (some ((1 : Int32), S)) else none)) (fun r5_1 => (cr_gd (cr_in ((0 : Int32)) 1) (cr_bd (cr_ul S (((0 : Int32)).toNatClampNeg + 1) (((r5_1).toInt64))) (fun S9_2 => (some ((0 : Int32), S9_2)))))))
def s_L_window (p1 : Int32) (p2 : Int32) (S : cr_S) : Option (Int32 × cr_S) := (cr_clc (s_X8_window S p1 p2) (fun C9 => (if C9 = "java/lang/IndexOutOfBoundsException" then (some ((1 : Int32), S)) else if C9 = "java/lang/IllegalArgumentException" then (some ((2 : Int32), S)) else none)) (fun r5_1 => (cr_gd (cr_in ((0 : Int32)) 1) (cr_bd (cr_ul S (((0 : Int32)).toNatClampNeg + 1) (((r5_1).toInt64))) (fun S9_2 => (some ((0 : Int32), S9_2)))))))
def s_L_law_160 (xs : Nat → Int32) (L : Nat) (k23 : Int32 → cr_S → Option Unit) (x4 : Int32) (S : cr_S) : Option Unit := (cr_gd (cr_in ((x4 + (1 : Int32))) L) (cr_gd (cr_in ((x4 + (2 : Int32))) L) (cr_gd (cr_in ((x4 + (3 : Int32))) L) (cr_cl (s_L_addTurbine ((xs ((x4 + (1 : Int32))).toNatClampNeg)) ((xs ((x4 + (2 : Int32))).toNatClampNeg)) ((xs ((x4 + (3 : Int32))).toNatClampNeg)) S) (fun r180_1 => (cr_gd (cr_in ((x4 + (1 : Int32))) L) (cr_gd (cr_in ((x4 + (2 : Int32))) L) (cr_gd (cr_in ((x4 + (3 : Int32))) L) (cr_cl (s_X9_addTurbine ((xs ((x4 + (1 : Int32))).toNatClampNeg)) ((xs ((x4 + (2 : Int32))).toNatClampNeg)) ((xs ((x4 + (3 : Int32))).toNatClampNeg)) (r180_1.2.1 9)) (fun r204_2 => (cr_bd (cr_us r180_1.2 9 r204_2.2) (fun S204_3 => (cr_cl (s_X9_thrown (S204_3.1 9)) (fun r210_4 => (if r210_4 = r180_1.1 then (if r180_1.1 = 0 then (cr_gd (cr_in ((0 : Int32)) 1) (if (lg_cmp ((S204_3.2 (((0 : Int32)).toNatClampNeg + 1))) (((r204_2.1).toInt64))) = 0 then (k23 ((x4 + 4)) S204_3) else none)) else (k23 ((x4 + 4)) S204_3)) else none)))))))))))))))
def s_L_law_240 (xs : Nat → Int32) (L : Nat) (k23 : Int32 → cr_S → Option Unit) (x4 : Int32) (S : cr_S) : Option Unit := (cr_gd (cr_in ((x4 + (1 : Int32))) L) (cr_gd (cr_in ((x4 + (2 : Int32))) L) (cr_cl (s_L_setFault ((xs ((x4 + (1 : Int32))).toNatClampNeg)) ((xs ((x4 + (2 : Int32))).toNatClampNeg)) S) (fun r254_7 => (cr_gd (cr_in ((x4 + (1 : Int32))) L) (cr_gd (cr_in ((x4 + (2 : Int32))) L) (cr_cl (s_X9_setFault ((xs ((x4 + (1 : Int32))).toNatClampNeg)) ((xs ((x4 + (2 : Int32))).toNatClampNeg)) (r254_7.2.1 9)) (fun r272_8 => (cr_bd (cr_us r254_7.2 9 r272_8.2) (fun S272_9 => (cr_cl (s_X9_thrown (S272_9.1 9)) (fun r278_10 => (if r278_10 = r254_7.1 then (if r254_7.1 = 0 then (cr_gd (cr_in ((0 : Int32)) 1) (if (lg_cmp ((S272_9.2 (((0 : Int32)).toNatClampNeg + 1))) (((r272_8.1).toInt64))) = 0 then (k23 ((x4 + 4)) S272_9) else none)) else (k23 ((x4 + 4)) S272_9)) else none)))))))))))))
def s_L_law_308 (xs : Nat → Int32) (L : Nat) (k23 : Int32 → cr_S → Option Unit) (x4 : Int32) (S : cr_S) : Option Unit := (cr_gd (cr_in ((x4 + (1 : Int32))) L) (cr_gd (cr_in ((x4 + (2 : Int32))) L) (cr_cl (s_L_setBog ((xs ((x4 + (1 : Int32))).toNatClampNeg)) ((xs ((x4 + (2 : Int32))).toNatClampNeg)) S) (fun r322_13 => (cr_gd (cr_in ((x4 + (1 : Int32))) L) (cr_gd (cr_in ((x4 + (2 : Int32))) L) (cr_cl (s_X9_setBog ((xs ((x4 + (1 : Int32))).toNatClampNeg)) ((xs ((x4 + (2 : Int32))).toNatClampNeg)) (r322_13.2.1 9)) (fun r340_14 => (cr_bd (cr_us r322_13.2 9 r340_14.2) (fun S340_15 => (cr_cl (s_X9_thrown (S340_15.1 9)) (fun r346_16 => (if r346_16 = r322_13.1 then (if r322_13.1 = 0 then (cr_gd (cr_in ((0 : Int32)) 1) (if (lg_cmp ((S340_15.2 (((0 : Int32)).toNatClampNeg + 1))) (((r340_14.1).toInt64))) = 0 then (k23 ((x4 + 4)) S340_15) else none)) else (k23 ((x4 + 4)) S340_15)) else none)))))))))))))
def s_L_law_376 (xs : Nat → Int32) (L : Nat) (k23 : Int32 → cr_S → Option Unit) (x4 : Int32) (S : cr_S) : Option Unit := (cr_gd (cr_in ((x4 + (1 : Int32))) L) (cr_gd (cr_in ((x4 + (2 : Int32))) L) (cr_cl (s_L_set ((xs ((x4 + (1 : Int32))).toNatClampNeg)) ((xs ((x4 + (2 : Int32))).toNatClampNeg)) S) (fun r390_19 => (cr_gd (cr_in ((x4 + (1 : Int32))) L) (cr_gd (cr_in ((x4 + (2 : Int32))) L) (cr_cl (s_X9_set ((xs ((x4 + (1 : Int32))).toNatClampNeg)) ((xs ((x4 + (2 : Int32))).toNatClampNeg)) (r390_19.2.1 9)) (fun r408_20 => (cr_bd (cr_us r390_19.2 9 r408_20.2) (fun S408_21 => (cr_cl (s_X9_thrown (S408_21.1 9)) (fun r414_22 => (if r414_22 = r390_19.1 then (if r390_19.1 = 0 then (cr_gd (cr_in ((0 : Int32)) 1) (if (lg_cmp ((S408_21.2 (((0 : Int32)).toNatClampNeg + 1))) (((r408_20.1).toInt64))) = 0 then (k23 ((x4 + 4)) S408_21) else none)) else (k23 ((x4 + 4)) S408_21)) else none)))))))))))))
def s_L_law_444 (xs : Nat → Int32) (L : Nat) (k23 : Int32 → cr_S → Option Unit) (x4 : Int32) (S : cr_S) : Option Unit := (cr_gd (cr_in ((x4 + (1 : Int32))) L) (cr_gd (cr_in ((x4 + (2 : Int32))) L) (cr_cl (s_L_plan ((xs ((x4 + (1 : Int32))).toNatClampNeg)) ((xs ((x4 + (2 : Int32))).toNatClampNeg)) S) (fun r458_25 => (cr_gd (cr_in ((x4 + (1 : Int32))) L) (cr_gd (cr_in ((x4 + (2 : Int32))) L) (cr_cl (s_X9_plan ((xs ((x4 + (1 : Int32))).toNatClampNeg)) ((xs ((x4 + (2 : Int32))).toNatClampNeg)) (r458_25.2.1 9)) (fun r476_26 => (cr_bd (cr_us r458_25.2 9 r476_26.2) (fun S476_27 => (cr_cl (s_X9_thrown (S476_27.1 9)) (fun r482_28 => (if r482_28 = r458_25.1 then (if r458_25.1 = 0 then (cr_gd (cr_in ((0 : Int32)) 1) (if (lg_cmp ((S476_27.2 (((0 : Int32)).toNatClampNeg + 1))) (((r476_26.1).toInt64))) = 0 then (k23 ((x4 + 4)) S476_27) else none)) else (k23 ((x4 + 4)) S476_27)) else none)))))))))))))
def s_L_law_512 (xs : Nat → Int32) (L : Nat) (k23 : Int32 → cr_S → Option Unit) (x4 : Int32) (S : cr_S) : Option Unit := (cr_gd (cr_in ((x4 + (1 : Int32))) L) (cr_cl (s_L_unplan ((xs ((x4 + (1 : Int32))).toNatClampNeg)) S) (fun r520_31 => (cr_gd (cr_in ((x4 + (1 : Int32))) L) (cr_cl (s_X9_unplan ((xs ((x4 + (1 : Int32))).toNatClampNeg)) (r520_31.2.1 9)) (fun r532_32 => (cr_bd (cr_us r520_31.2 9 r532_32.2) (fun S532_33 => (cr_cl (s_X9_thrown (S532_33.1 9)) (fun r538_34 => (if r538_34 = r520_31.1 then (if r520_31.1 = 0 then (cr_gd (cr_in ((0 : Int32)) 1) (if (lg_cmp ((S532_33.2 (((0 : Int32)).toNatClampNeg + 1))) (((r532_32.1).toInt64))) = 0 then (k23 ((x4 + 4)) S532_33) else none)) else (k23 ((x4 + 4)) S532_33)) else none)))))))))))
def s_L_law_568 (xs : Nat → Int32) (L : Nat) (k23 : Int32 → cr_S → Option Unit) (x4 : Int32) (S : cr_S) : Option Unit := (cr_gd (cr_in ((x4 + (1 : Int32))) L) (cr_cl (s_L_orderBlade ((xs ((x4 + (1 : Int32))).toNatClampNeg)) S) (fun r576_37 => (cr_gd (cr_in ((x4 + (1 : Int32))) L) (cr_cl (s_X9_orderBlade ((xs ((x4 + (1 : Int32))).toNatClampNeg)) (r576_37.2.1 9)) (fun r588_38 => (cr_bd (cr_us r576_37.2 9 r588_38.2) (fun S588_39 => (cr_cl (s_X9_thrown (S588_39.1 9)) (fun r594_40 => (if r594_40 = r576_37.1 then (if r576_37.1 = 0 then (cr_gd (cr_in ((0 : Int32)) 1) (if (lg_cmp ((S588_39.2 (((0 : Int32)).toNatClampNeg + 1))) (((r588_38.1).toInt64))) = 0 then (k23 ((x4 + 4)) S588_39) else none)) else (k23 ((x4 + 4)) S588_39)) else none)))))))))))
def s_L_law_624 (xs : Nat → Int32) (L : Nat) (k23 : Int32 → cr_S → Option Unit) (x4 : Int32) (S : cr_S) : Option Unit := (cr_gd (cr_in ((x4 + (1 : Int32))) L) (cr_cl (s_L_pass ((xs ((x4 + (1 : Int32))).toNatClampNeg)) S) (fun r632_43 => (cr_gd (cr_in ((x4 + (1 : Int32))) L) (cr_cl (s_X9_pass ((xs ((x4 + (1 : Int32))).toNatClampNeg)) (r632_43.2.1 9)) (fun r644_44 => (cr_bd (cr_us r632_43.2 9 r644_44.2) (fun S644_45 => (cr_cl (s_X9_thrown (S644_45.1 9)) (fun r650_46 => (if r650_46 = r632_43.1 then (if r632_43.1 = 0 then (cr_gd (cr_in ((0 : Int32)) 1) (if (lg_cmp ((S644_45.2 (((0 : Int32)).toNatClampNeg + 1))) (((r644_44.1).toInt64))) = 0 then (k23 ((x4 + 4)) S644_45) else none)) else (k23 ((x4 + 4)) S644_45)) else none)))))))))))
def s_L_law_680 (xs : Nat → Int32) (L : Nat) (k23 : Int32 → cr_S → Option Unit) (x4 : Int32) (S : cr_S) : Option Unit := (cr_gd (cr_in ((x4 + (1 : Int32))) L) (cr_cl (s_L_append ((xs ((x4 + (1 : Int32))).toNatClampNeg)) S) (fun r688_49 => (cr_gd (cr_in ((x4 + (1 : Int32))) L) (cr_cl (s_X9_append ((xs ((x4 + (1 : Int32))).toNatClampNeg)) (r688_49.2.1 9)) (fun r700_50 => (cr_bd (cr_us r688_49.2 9 r700_50.2) (fun S700_51 => (cr_cl (s_X9_thrown (S700_51.1 9)) (fun r706_52 => (if r706_52 = r688_49.1 then (if r688_49.1 = 0 then (cr_gd (cr_in ((0 : Int32)) 1) (if (lg_cmp ((S700_51.2 (((0 : Int32)).toNatClampNeg + 1))) (((r700_50.1).toInt64))) = 0 then (k23 ((x4 + 4)) S700_51) else none)) else (k23 ((x4 + 4)) S700_51)) else none)))))))))))
def s_L_law_736 (xs : Nat → Int32) (L : Nat) (k23 : Int32 → cr_S → Option Unit) (x4 : Int32) (S : cr_S) : Option Unit := (cr_cl (s_X8_clearBuffer S) (fun r737_55 => (cr_cl (s_X9_clearBuffer (r737_55.2.1 9)) (fun r741_56 => (cr_bd (cr_us r737_55.2 9 r741_56.2) (fun S741_57 => (if r737_55.1 = r741_56.1 then (k23 ((x4 + 4)) S741_57) else none)))))))
def s_L_law_749 (xs : Nat → Int32) (L : Nat) (k23 : Int32 → cr_S → Option Unit) (x4 : Int32) (S : cr_S) : Option Unit := (cr_cl (s_X8_firstError S) (fun r750_59 => (cr_cl (s_X9_firstError (S.1 9)) (fun r754_60 => (cr_bd (cr_us S 9 r754_60.2) (fun S754_61 => (if r750_59 = r754_60.1 then (k23 ((x4 + 4)) S754_61) else none)))))))
def s_L_law_762 (xs : Nat → Int32) (L : Nat) (k23 : Int32 → cr_S → Option Unit) (x4 : Int32) (S : cr_S) : Option Unit := (cr_cl (s_L_load S) (fun r764_63 => (cr_cl (s_X9_load (r764_63.2.1 9)) (fun r770_64 => (cr_bd (cr_us r764_63.2 9 r770_64.2) (fun S770_65 => (cr_cl (s_X9_thrown (S770_65.1 9)) (fun r776_66 => (if r776_66 = r764_63.1 then (if r764_63.1 = 0 then (cr_gd (cr_in ((0 : Int32)) 1) (if (lg_cmp ((S770_65.2 (((0 : Int32)).toNatClampNeg + 1))) (((r770_64.1).toInt64))) = 0 then (k23 ((x4 + 4)) S770_65) else none)) else (k23 ((x4 + 4)) S770_65)) else none)))))))))
def s_L_law_806 (xs : Nat → Int32) (L : Nat) (k23 : Int32 → cr_S → Option Unit) (x4 : Int32) (S : cr_S) : Option Unit := (cr_cl (s_L_undo S) (fun r808_69 => (cr_cl (s_X9_undo (r808_69.2.1 9)) (fun r814_70 => (cr_bd (cr_us r808_69.2 9 r814_70.2) (fun S814_71 => (cr_cl (s_X9_thrown (S814_71.1 9)) (fun r820_72 => (if r820_72 = r808_69.1 then (if r808_69.1 = 0 then (cr_gd (cr_in ((0 : Int32)) 1) (if (lg_cmp ((S814_71.2 (((0 : Int32)).toNatClampNeg + 1))) (((r814_70.1).toInt64))) = 0 then (k23 ((x4 + 4)) S814_71) else none)) else (k23 ((x4 + 4)) S814_71)) else none)))))))))
def s_L_law_850 (xs : Nat → Int32) (L : Nat) (k23 : Int32 → cr_S → Option Unit) (x4 : Int32) (S : cr_S) : Option Unit := (cr_gd (cr_in ((x4 + (1 : Int32))) L) (cr_gd (cr_in ((x4 + (2 : Int32))) L) (cr_cl (s_L_turbine ((xs ((x4 + (1 : Int32))).toNatClampNeg)) ((xs ((x4 + (2 : Int32))).toNatClampNeg)) S) (fun r864_75 => (cr_gd (cr_in ((x4 + (1 : Int32))) L) (cr_gd (cr_in ((x4 + (2 : Int32))) L) (cr_cl (s_X9_turbine ((xs ((x4 + (1 : Int32))).toNatClampNeg)) ((xs ((x4 + (2 : Int32))).toNatClampNeg)) (r864_75.2.1 9)) (fun r882_76 => (cr_bd (cr_us r864_75.2 9 r882_76.2) (fun S882_77 => (cr_cl (s_X9_thrown (S882_77.1 9)) (fun r888_78 => (if r888_78 = r864_75.1 then (if r864_75.1 = 0 then (cr_gd (cr_in ((0 : Int32)) 1) (if (lg_cmp ((S882_77.2 (((0 : Int32)).toNatClampNeg + 1))) (((r882_76.1).toInt64))) = 0 then (k23 ((x4 + 4)) S882_77) else none)) else (k23 ((x4 + 4)) S882_77)) else none)))))))))))))
def s_L_law_918 (xs : Nat → Int32) (L : Nat) (k23 : Int32 → cr_S → Option Unit) (x4 : Int32) (S : cr_S) : Option Unit := (cr_gd (cr_in ((x4 + (1 : Int32))) L) (cr_gd (cr_in ((x4 + (2 : Int32))) L) (cr_cl (s_L_blade ((xs ((x4 + (1 : Int32))).toNatClampNeg)) ((xs ((x4 + (2 : Int32))).toNatClampNeg)) S) (fun r932_81 => (cr_gd (cr_in ((x4 + (1 : Int32))) L) (cr_gd (cr_in ((x4 + (2 : Int32))) L) (cr_cl (s_X9_blade ((xs ((x4 + (1 : Int32))).toNatClampNeg)) ((xs ((x4 + (2 : Int32))).toNatClampNeg)) (r932_81.2.1 9)) (fun r950_82 => (cr_bd (cr_us r932_81.2 9 r950_82.2) (fun S950_83 => (cr_cl (s_X9_thrown (S950_83.1 9)) (fun r956_84 => (if r956_84 = r932_81.1 then (if r932_81.1 = 0 then (cr_gd (cr_in ((0 : Int32)) 1) (if (lg_cmp ((S950_83.2 (((0 : Int32)).toNatClampNeg + 1))) (((r950_82.1).toInt64))) = 0 then (k23 ((x4 + 4)) S950_83) else none)) else (k23 ((x4 + 4)) S950_83)) else none)))))))))))))
def s_L_law_986 (xs : Nat → Int32) (L : Nat) (k23 : Int32 → cr_S → Option Unit) (x4 : Int32) (S : cr_S) : Option Unit := (cr_gd (cr_in ((x4 + (1 : Int32))) L) (cr_gd (cr_in ((x4 + (2 : Int32))) L) (cr_cl (s_L_bog ((xs ((x4 + (1 : Int32))).toNatClampNeg)) ((xs ((x4 + (2 : Int32))).toNatClampNeg)) S) (fun r1000_87 => (cr_gd (cr_in ((x4 + (1 : Int32))) L) (cr_gd (cr_in ((x4 + (2 : Int32))) L) (cr_cl (s_X9_bog ((xs ((x4 + (1 : Int32))).toNatClampNeg)) ((xs ((x4 + (2 : Int32))).toNatClampNeg)) (r1000_87.2.1 9)) (fun r1018_88 => (cr_bd (cr_us r1000_87.2 9 r1018_88.2) (fun S1018_89 => (cr_cl (s_X9_thrown (S1018_89.1 9)) (fun r1024_90 => (if r1024_90 = r1000_87.1 then (if r1000_87.1 = 0 then (cr_gd (cr_in ((0 : Int32)) 1) (if (lg_cmp ((S1018_89.2 (((0 : Int32)).toNatClampNeg + 1))) (((r1018_88.1).toInt64))) = 0 then (k23 ((x4 + 4)) S1018_89) else none)) else (k23 ((x4 + 4)) S1018_89)) else none)))))))))))))
def s_L_law_1054 (xs : Nat → Int32) (L : Nat) (k23 : Int32 → cr_S → Option Unit) (x4 : Int32) (S : cr_S) : Option Unit := (cr_gd (cr_in ((x4 + (1 : Int32))) L) (cr_cl (s_L_claims ((xs ((x4 + (1 : Int32))).toNatClampNeg)) S) (fun r1062_93 => (cr_gd (cr_in ((x4 + (1 : Int32))) L) (cr_cl (s_X9_claims ((xs ((x4 + (1 : Int32))).toNatClampNeg)) (r1062_93.2.1 9)) (fun r1074_94 => (cr_bd (cr_us r1062_93.2 9 r1074_94.2) (fun S1074_95 => (cr_cl (s_X9_thrown (S1074_95.1 9)) (fun r1080_96 => (if r1080_96 = r1062_93.1 then (if r1062_93.1 = 0 then (cr_gd (cr_in ((0 : Int32)) 1) (if (lg_cmp ((S1074_95.2 (((0 : Int32)).toNatClampNeg + 1))) (((r1074_94.1).toInt64))) = 0 then (k23 ((x4 + 4)) S1074_95) else none)) else (k23 ((x4 + 4)) S1074_95)) else none)))))))))))
def s_L_law_1110 (xs : Nat → Int32) (L : Nat) (k23 : Int32 → cr_S → Option Unit) (x4 : Int32) (S : cr_S) : Option Unit := (cr_gd (cr_in ((x4 + (1 : Int32))) L) (cr_cl (s_L_count ((xs ((x4 + (1 : Int32))).toNatClampNeg)) S) (fun r1118_99 => (cr_gd (cr_in ((x4 + (1 : Int32))) L) (cr_cl (s_X9_count ((xs ((x4 + (1 : Int32))).toNatClampNeg)) (r1118_99.2.1 9)) (fun r1130_100 => (cr_bd (cr_us r1118_99.2 9 r1130_100.2) (fun S1130_101 => (cr_cl (s_X9_thrown (S1130_101.1 9)) (fun r1136_102 => (if r1136_102 = r1118_99.1 then (if r1118_99.1 = 0 then (cr_gd (cr_in ((0 : Int32)) 1) (if (lg_cmp ((S1130_101.2 (((0 : Int32)).toNatClampNeg + 1))) (((r1130_100.1).toInt64))) = 0 then (k23 ((x4 + 4)) S1130_101) else none)) else (k23 ((x4 + 4)) S1130_101)) else none)))))))))))
def s_L_law_1166 (xs : Nat → Int32) (L : Nat) (k23 : Int32 → cr_S → Option Unit) (x4 : Int32) (S : cr_S) : Option Unit := (cr_gd (cr_in ((x4 + (1 : Int32))) L) (cr_cl (s_L_setting ((xs ((x4 + (1 : Int32))).toNatClampNeg)) S) (fun r1174_105 => (cr_gd (cr_in ((x4 + (1 : Int32))) L) (cr_cl (s_X9_setting ((xs ((x4 + (1 : Int32))).toNatClampNeg)) (r1174_105.2.1 9)) (fun r1186_106 => (cr_bd (cr_us r1174_105.2 9 r1186_106.2) (fun S1186_107 => (cr_cl (s_X9_thrown (S1186_107.1 9)) (fun r1192_108 => (if r1192_108 = r1174_105.1 then (if r1174_105.1 = 0 then (cr_gd (cr_in ((0 : Int32)) 1) (if (lg_cmp ((S1186_107.2 (((0 : Int32)).toNatClampNeg + 1))) (((r1186_106.1).toInt64))) = 0 then (k23 ((x4 + 4)) S1186_107) else none)) else (k23 ((x4 + 4)) S1186_107)) else none)))))))))))
def s_L_law_1222 (xs : Nat → Int32) (L : Nat) (k23 : Int32 → cr_S → Option Unit) (x4 : Int32) (S : cr_S) : Option Unit := (cr_gd (cr_in ((x4 + (1 : Int32))) L) (cr_gd (cr_in ((x4 + (2 : Int32))) L) (cr_cl (s_L_way ((xs ((x4 + (1 : Int32))).toNatClampNeg)) ((xs ((x4 + (2 : Int32))).toNatClampNeg)) S) (fun r1236_111 => (cr_gd (cr_in ((x4 + (1 : Int32))) L) (cr_gd (cr_in ((x4 + (2 : Int32))) L) (cr_cl (s_X9_way ((xs ((x4 + (1 : Int32))).toNatClampNeg)) ((xs ((x4 + (2 : Int32))).toNatClampNeg)) (r1236_111.2.1 9)) (fun r1254_112 => (cr_bd (cr_us r1236_111.2 9 r1254_112.2) (fun S1254_113 => (cr_cl (s_X9_thrown (S1254_113.1 9)) (fun r1260_114 => (if r1260_114 = r1236_111.1 then (if r1236_111.1 = 0 then (cr_gd (cr_in ((0 : Int32)) 1) (if (lg_cmp ((S1254_113.2 (((0 : Int32)).toNatClampNeg + 1))) (((r1254_112.1).toInt64))) = 0 then (k23 ((x4 + 4)) S1254_113) else none)) else (k23 ((x4 + 4)) S1254_113)) else none)))))))))))))
def s_L_law_1290 (xs : Nat → Int32) (L : Nat) (k23 : Int32 → cr_S → Option Unit) (x4 : Int32) (S : cr_S) : Option Unit := (cr_gd (cr_in ((x4 + (1 : Int32))) L) (cr_gd (cr_in ((x4 + (2 : Int32))) L) (cr_cl (s_L_ifPassed ((xs ((x4 + (1 : Int32))).toNatClampNeg)) ((xs ((x4 + (2 : Int32))).toNatClampNeg)) S) (fun r1304_117 => (cr_gd (cr_in ((x4 + (1 : Int32))) L) (cr_gd (cr_in ((x4 + (2 : Int32))) L) (cr_cl (s_X9_ifPassed ((xs ((x4 + (1 : Int32))).toNatClampNeg)) ((xs ((x4 + (2 : Int32))).toNatClampNeg)) (r1304_117.2.1 9)) (fun r1322_118 => (cr_bd (cr_us r1304_117.2 9 r1322_118.2) (fun S1322_119 => (cr_cl (s_X9_thrown (S1322_119.1 9)) (fun r1328_120 => (if r1328_120 = r1304_117.1 then (if r1304_117.1 = 0 then (cr_gd (cr_in ((0 : Int32)) 1) (if (lg_cmp ((S1322_119.2 (((0 : Int32)).toNatClampNeg + 1))) (((r1322_118.1).toInt64))) = 0 then (k23 ((x4 + 4)) S1322_119) else none)) else (k23 ((x4 + 4)) S1322_119)) else none)))))))))))))
def s_L_law_1358 (xs : Nat → Int32) (L : Nat) (k23 : Int32 → cr_S → Option Unit) (x4 : Int32) (S : cr_S) : Option Unit := (cr_cl (s_X8_bestFirst S) (fun r1359_123 => (cr_cl (s_X9_bestFirst (r1359_123.2.1 9)) (fun r1363_124 => (cr_bd (cr_us r1359_123.2 9 r1363_124.2) (fun S1363_125 => (if r1359_123.1 = r1363_124.1 then (k23 ((x4 + 4)) S1363_125) else none)))))))
def s_L_law_1371 (xs : Nat → Int32) (L : Nat) (k23 : Int32 → cr_S → Option Unit) (x4 : Int32) (S : cr_S) : Option Unit := (cr_gd (cr_in ((x4 + (1 : Int32))) L) (cr_gd (cr_in ((x4 + (2 : Int32))) L) (cr_cl (s_L_window ((xs ((x4 + (1 : Int32))).toNatClampNeg)) ((xs ((x4 + (2 : Int32))).toNatClampNeg)) S) (fun r1385_127 => (cr_gd (cr_in ((x4 + (1 : Int32))) L) (cr_gd (cr_in ((x4 + (2 : Int32))) L) (cr_cl (s_X9_window ((xs ((x4 + (1 : Int32))).toNatClampNeg)) ((xs ((x4 + (2 : Int32))).toNatClampNeg)) (r1385_127.2.1 9)) (fun r1403_128 => (cr_bd (cr_us r1385_127.2 9 r1403_128.2) (fun S1403_129 => (cr_cl (s_X9_thrown (S1403_129.1 9)) (fun r1409_130 => (if r1409_130 = r1385_127.1 then (if r1385_127.1 = 0 then (cr_gd (cr_in ((0 : Int32)) 1) (if (lg_cmp ((S1403_129.2 (((0 : Int32)).toNatClampNeg + 1))) (((r1403_128.1).toInt64))) = 0 then (k23 ((x4 + 4)) S1403_129) else none)) else (k23 ((x4 + 4)) S1403_129)) else none)))))))))))))
def s_L_law_1439 (xs : Nat → Int32) (L : Nat) (k23 : Int32 → cr_S → Option Unit) (x4 : Int32) (S : cr_S) : Option Unit := (cr_cl (s_X8_doneIn S) (fun r1440_133 => (cr_cl (s_X9_doneIn (r1440_133.2.1 9)) (fun r1444_134 => (cr_bd (cr_us r1440_133.2 9 r1444_134.2) (fun S1444_135 => (if r1440_133.1 = r1444_134.1 then (k23 ((x4 + 4)) S1444_135) else none)))))))
def s_L_law_1452 (xs : Nat → Int32) (L : Nat) (k23 : Int32 → cr_S → Option Unit) (x4 : Int32) (S : cr_S) : Option Unit := (cr_cl (s_X8_meanWind S) (fun r1453_137 => (cr_gd (cr_nf2d r1453_137) (cr_bd (FP.f2d r1453_137) (fun v1457_138 => (cr_cl (s_X9_meanWind (S.1 9)) (fun r1460_139 => (cr_bd (cr_us S 9 r1460_139.2) (fun S1460_140 => (cr_gd (cr_nf2d r1460_139.1) (cr_bd (FP.f2d r1460_139.1) (fun v1464_141 => (if (Op.cmpValue (FP.dcmp v1457_138 v1464_141) .l) = 0 then (k23 ((x4 + 4)) S1460_140) else (if (Op.cmpValue (FP.dcmp v1457_138 v1457_138) .l) = 0 then none else (if (Op.cmpValue (FP.dcmp v1464_141 v1464_141) .l) = 0 then none else (k23 ((x4 + 4)) S1460_140))))))))))))))))
def s_L_law_1495 (xs : Nat → Int32) (L : Nat) (k23 : Int32 → cr_S → Option Unit) (x4 : Int32) (S : cr_S) : Option Unit := (cr_cl (s_X8_lostShare S) (fun r1496_144 => (cr_cl (s_X9_lostShare (S.1 9)) (fun r1502_145 => (cr_bd (cr_us S 9 r1502_145.2) (fun S1502_146 => (if (Op.cmpValue (FP.dcmp r1496_144 r1502_145.1) .l) = 0 then (k23 ((x4 + 4)) S1502_146) else (if (Op.cmpValue (FP.dcmp r1496_144 r1496_144) .l) = 0 then none else (if (Op.cmpValue (FP.dcmp r1502_145.1 r1502_145.1) .l) = 0 then none else (k23 ((x4 + 4)) S1502_146))))))))))
def s_L_law_1536 (xs : Nat → Int32) (L : Nat) (k23 : Int32 → cr_S → Option Unit) (x4 : Int32) (S : cr_S) : Option Unit := (cr_cl (s_X8_digest S) (fun r1537_149 => (cr_cl (s_X9_digest r1537_149.2) (fun r1541_150 => (if (lg_cmp r1537_149.1 r1541_150.1) = 0 then (k23 ((x4 + 4)) r1541_150.2) else none)))))
def s_L_law_23 (xs : Nat → Int32) (L : Nat) : Nat → Int32 → cr_S → Option Unit
  | 0, _, _ => none
  | n + 1, x4, S => (if ((nI L) - (4 : Int32)) < x4 then (some ()) else (cr_gd (cr_in x4 L) (if ((xs (x4).toNatClampNeg) &&& (31 : Int32)) = 0 then (s_L_law_160 xs L (fun x4a Sa => s_L_law_23 xs L n x4a Sa) x4 S) else (if ((xs (x4).toNatClampNeg) &&& (31 : Int32)) = 1 then (s_L_law_240 xs L (fun x4a Sa => s_L_law_23 xs L n x4a Sa) x4 S) else (if ((xs (x4).toNatClampNeg) &&& (31 : Int32)) = 2 then (s_L_law_308 xs L (fun x4a Sa => s_L_law_23 xs L n x4a Sa) x4 S) else (if ((xs (x4).toNatClampNeg) &&& (31 : Int32)) = 3 then (s_L_law_376 xs L (fun x4a Sa => s_L_law_23 xs L n x4a Sa) x4 S) else (if ((xs (x4).toNatClampNeg) &&& (31 : Int32)) = 4 then (s_L_law_444 xs L (fun x4a Sa => s_L_law_23 xs L n x4a Sa) x4 S) else (if ((xs (x4).toNatClampNeg) &&& (31 : Int32)) = 5 then (s_L_law_512 xs L (fun x4a Sa => s_L_law_23 xs L n x4a Sa) x4 S) else (if ((xs (x4).toNatClampNeg) &&& (31 : Int32)) = 6 then (s_L_law_568 xs L (fun x4a Sa => s_L_law_23 xs L n x4a Sa) x4 S) else (if ((xs (x4).toNatClampNeg) &&& (31 : Int32)) = 7 then (s_L_law_624 xs L (fun x4a Sa => s_L_law_23 xs L n x4a Sa) x4 S) else (if ((xs (x4).toNatClampNeg) &&& (31 : Int32)) = 8 then (s_L_law_680 xs L (fun x4a Sa => s_L_law_23 xs L n x4a Sa) x4 S) else (if ((xs (x4).toNatClampNeg) &&& (31 : Int32)) = 9 then (s_L_law_736 xs L (fun x4a Sa => s_L_law_23 xs L n x4a Sa) x4 S) else (if ((xs (x4).toNatClampNeg) &&& (31 : Int32)) = 10 then (s_L_law_749 xs L (fun x4a Sa => s_L_law_23 xs L n x4a Sa) x4 S) else (if ((xs (x4).toNatClampNeg) &&& (31 : Int32)) = 11 then (s_L_law_762 xs L (fun x4a Sa => s_L_law_23 xs L n x4a Sa) x4 S) else (if ((xs (x4).toNatClampNeg) &&& (31 : Int32)) = 12 then (s_L_law_806 xs L (fun x4a Sa => s_L_law_23 xs L n x4a Sa) x4 S) else (if ((xs (x4).toNatClampNeg) &&& (31 : Int32)) = 13 then (s_L_law_850 xs L (fun x4a Sa => s_L_law_23 xs L n x4a Sa) x4 S) else (if ((xs (x4).toNatClampNeg) &&& (31 : Int32)) = 14 then (s_L_law_918 xs L (fun x4a Sa => s_L_law_23 xs L n x4a Sa) x4 S) else (if ((xs (x4).toNatClampNeg) &&& (31 : Int32)) = 15 then (s_L_law_986 xs L (fun x4a Sa => s_L_law_23 xs L n x4a Sa) x4 S) else (if ((xs (x4).toNatClampNeg) &&& (31 : Int32)) = 16 then (s_L_law_1054 xs L (fun x4a Sa => s_L_law_23 xs L n x4a Sa) x4 S) else (if ((xs (x4).toNatClampNeg) &&& (31 : Int32)) = 17 then (s_L_law_1110 xs L (fun x4a Sa => s_L_law_23 xs L n x4a Sa) x4 S) else (if ((xs (x4).toNatClampNeg) &&& (31 : Int32)) = 18 then (s_L_law_1166 xs L (fun x4a Sa => s_L_law_23 xs L n x4a Sa) x4 S) else (if ((xs (x4).toNatClampNeg) &&& (31 : Int32)) = 19 then (s_L_law_1222 xs L (fun x4a Sa => s_L_law_23 xs L n x4a Sa) x4 S) else (if ((xs (x4).toNatClampNeg) &&& (31 : Int32)) = 20 then (s_L_law_1290 xs L (fun x4a Sa => s_L_law_23 xs L n x4a Sa) x4 S) else (if ((xs (x4).toNatClampNeg) &&& (31 : Int32)) = 21 then (s_L_law_1358 xs L (fun x4a Sa => s_L_law_23 xs L n x4a Sa) x4 S) else (if ((xs (x4).toNatClampNeg) &&& (31 : Int32)) = 22 then (s_L_law_1371 xs L (fun x4a Sa => s_L_law_23 xs L n x4a Sa) x4 S) else (if ((xs (x4).toNatClampNeg) &&& (31 : Int32)) = 23 then (s_L_law_1439 xs L (fun x4a Sa => s_L_law_23 xs L n x4a Sa) x4 S) else (if ((xs (x4).toNatClampNeg) &&& (31 : Int32)) = 24 then (s_L_law_1452 xs L (fun x4a Sa => s_L_law_23 xs L n x4a Sa) x4 S) else (if ((xs (x4).toNatClampNeg) &&& (31 : Int32)) = 25 then (s_L_law_1495 xs L (fun x4a Sa => s_L_law_23 xs L n x4a Sa) x4 S) else (if ((xs (x4).toNatClampNeg) &&& (31 : Int32)) = 26 then (s_L_law_1536 xs L (fun x4a Sa => s_L_law_23 xs L n x4a Sa) x4 S) else (s_L_law_23 xs L n ((x4 + 4)) S))))))))))))))))))))))))))))))
theorem k_L_addTurbine_1 : (Cond.classLink RL 13 "java/lang/IllegalArgumentException") ∈ wsL_addTurbine := List.mem_of_getElem? (i := 1) (by rfl)
theorem k_L_addTurbine_2 : (Cond.classLink RL 15 "java/lang/IllegalStateException") ∈ wsL_addTurbine := List.mem_of_getElem? (i := 2) (by rfl)
abbrev rm_L_addTurbine : Room := { frames := 7, cells := 2, slots := 12, locals := 126 }
set_option maxHeartbeats 4000000 in
set_option maxRecDepth 100000 in
theorem c_L_addTurbine (l : Launch) (hl : l.stackTraces = false) (E : cr_E) (hEK : cr_EK E) (S : cr_S) (p1 : Int32) (p2 : Int32) (p3 : Int32) : cr_Mc l E yL_addTurbine wsL_addTurbine rm_L_addTurbine 2 12 [.ref (E.2.1 8 0), .int p1, .int p2, .int p3, .ref (E.2.1 10 0)] S cr_vIS (s_L_addTurbine p1 p2 p3 S) := by
  refine cr_enterc (cc := cL_addTurbine) (nL := 6) (rt := (some .int)) (hh := [(0, 12, 15, 13), (0, 12, 19, 15)]) hEK (by decide) rfl (Nat.le_of_ble_eq_true rfl) (fun Γ hΓ X NC htab => ?_)
  subst hΓ
  have Yl := hl
  have X : cr_X Γ E cL_addTurbine 6 RL wsL_addTurbine rm_L_addTurbine (some .int) := X
  unfold s_L_addTurbine
  show cr_P Γ E 6 _ 0 0 S 0 ([(0, .ref (E.2.1 8 0)), (1, .int p1), (2, .int p2), (3, .int p3), (4, .ref (E.2.1 10 0))]) [] _
  refine cr_aload X 4 rfl dL_addTurbine_0 ?_
  refine cr_iconst X (0 : Int32) (by decide) dL_addTurbine_2 ?_
  refine cr_aload_n X 0 rfl dL_addTurbine_3 ?_
  refine cr_iload_n X 1 rfl dL_addTurbine_4 ?_
  refine cr_iload_n X 2 rfl dL_addTurbine_5 ?_
  refine cr_iload_n X 3 rfl dL_addTurbine_6 ?_
  refine cr_callC2 X NC htab "java/lang/IllegalArgumentException" "java/lang/IllegalStateException" (by decide +kernel) (by decide +kernel) (by decide +kernel) k_L_addTurbine_1 k_L_addTurbine_2 (As := [.int p1, .int p2, .int p3]) (rest := [.int ((0 : Int32)), .ref (E.2.1 10 0)]) 2 12 (c_X8_addTurbine Γ.2.1 Yl E hEK S p1 p2 p3) ((cr_b0 E).at rfl rfl) rfl 3 gL_addTurbine_X8_addTurbine rfl rfl rfl (by decide +kernel) ⟨Nat.le_of_ble_eq_true rfl, Nat.le_of_ble_eq_true rfl⟩ (by decide) rfl rfl (Nat.le_of_ble_eq_true rfl) dL_addTurbine_7 (by decide) (by decide) (by decide) ?_ ?_ ?_
  · intro q
    refine cr_astore X ([(5, .ref q), (0, .ref (E.2.1 8 0)), (1, .int p1), (2, .int p2), (3, .int p3), (4, .ref (E.2.1 10 0))]) rfl (by decide) dL_addTurbine_15 ?_
    refine cr_iconst X (1 : Int32) (by decide) dL_addTurbine_17 ?_
    exact cr_iretc X rfl rfl (by decide) dL_addTurbine_18
  · intro q
    refine cr_astore X ([(5, .ref q), (0, .ref (E.2.1 8 0)), (1, .int p1), (2, .int p2), (3, .int p3), (4, .ref (E.2.1 10 0))]) rfl (by decide) dL_addTurbine_19 ?_
    refine cr_iconst X (2 : Int32) (by decide) dL_addTurbine_21 ?_
    exact cr_iretc X rfl rfl (by decide) dL_addTurbine_22
  · intro r7_1
    show cr_P Γ E 6 _ 2 12 r7_1.2 10 ([(0, .ref (E.2.1 8 0)), (1, .int p1), (2, .int p2), (3, .int p3), (4, .ref (E.2.1 10 0))]) ([.int r7_1.1, .int ((0 : Int32)), .ref (E.2.1 10 0)]) _
    refine cr_i2l X dL_addTurbine_10 ?_
    refine cr_lastS X dL_addTurbine_11 (fun S11_2 => ?_)
    refine cr_goto X 23 dL_addTurbine_12 rfl ?_
    refine cr_iconst X (0 : Int32) (by decide) dL_addTurbine_23 ?_
    exact cr_iretc X rfl rfl (by decide) dL_addTurbine_24
theorem k_L_append_1 : (Cond.classLink RL 13 "java/lang/IllegalArgumentException") ∈ wsL_append := List.mem_of_getElem? (i := 1) (by rfl)
theorem k_L_append_2 : (Cond.classLink RL 15 "java/lang/IllegalStateException") ∈ wsL_append := List.mem_of_getElem? (i := 2) (by rfl)
abbrev rm_L_append : Room := { frames := 7, cells := 2, slots := 12, locals := 103 }
set_option maxHeartbeats 4000000 in
set_option maxRecDepth 100000 in
theorem c_L_append (l : Launch) (hl : l.stackTraces = false) (E : cr_E) (hEK : cr_EK E) (S : cr_S) (p1 : Int32) : cr_Mc l E yL_append wsL_append rm_L_append 2 12 [.ref (E.2.1 8 0), .int p1, .ref (E.2.1 10 0)] S cr_vIS (s_L_append p1 S) := by
  refine cr_enterc (cc := cL_append) (nL := 4) (rt := (some .int)) (hh := [(0, 9, 12, 13), (0, 9, 15, 15)]) hEK (by decide) rfl (Nat.le_of_ble_eq_true rfl) (fun Γ hΓ X NC htab => ?_)
  subst hΓ
  have Yl := hl
  have X : cr_X Γ E cL_append 4 RL wsL_append rm_L_append (some .int) := X
  unfold s_L_append
  show cr_P Γ E 4 _ 0 0 S 0 ([(0, .ref (E.2.1 8 0)), (1, .int p1), (2, .ref (E.2.1 10 0))]) [] _
  refine cr_aload_n X 2 rfl dL_append_0 ?_
  refine cr_iconst X (0 : Int32) (by decide) dL_append_1 ?_
  refine cr_aload_n X 0 rfl dL_append_2 ?_
  refine cr_iload_n X 1 rfl dL_append_3 ?_
  refine cr_callC2 X NC htab "java/lang/IllegalArgumentException" "java/lang/IllegalStateException" (by decide +kernel) (by decide +kernel) (by decide +kernel) k_L_append_1 k_L_append_2 (As := [.int p1]) (rest := [.int ((0 : Int32)), .ref (E.2.1 10 0)]) 2 12 (c_X8_append Γ.2.1 Yl E hEK S p1) ((cr_b0 E).at rfl rfl) rfl 1 gL_append_X8_append rfl rfl rfl (by decide +kernel) ⟨Nat.le_of_ble_eq_true rfl, Nat.le_of_ble_eq_true rfl⟩ (by decide) rfl rfl (Nat.le_of_ble_eq_true rfl) dL_append_4 (by decide) (by decide) (by decide) ?_ ?_ ?_
  · intro q
    refine cr_astore_n X ([(3, .ref q), (0, .ref (E.2.1 8 0)), (1, .int p1), (2, .ref (E.2.1 10 0))]) rfl (by decide) dL_append_12 ?_
    refine cr_iconst X (1 : Int32) (by decide) dL_append_13 ?_
    exact cr_iretc X rfl rfl (by decide) dL_append_14
  · intro q
    refine cr_astore_n X ([(3, .ref q), (0, .ref (E.2.1 8 0)), (1, .int p1), (2, .ref (E.2.1 10 0))]) rfl (by decide) dL_append_15 ?_
    refine cr_iconst X (2 : Int32) (by decide) dL_append_16 ?_
    exact cr_iretc X rfl rfl (by decide) dL_append_17
  · intro r4_1
    show cr_P Γ E 4 _ 2 12 r4_1.2 7 ([(0, .ref (E.2.1 8 0)), (1, .int p1), (2, .ref (E.2.1 10 0))]) ([.int r4_1.1, .int ((0 : Int32)), .ref (E.2.1 10 0)]) _
    refine cr_i2l X dL_append_7 ?_
    refine cr_lastS X dL_append_8 (fun S8_2 => ?_)
    refine cr_goto X 18 dL_append_9 rfl ?_
    refine cr_iconst X (0 : Int32) (by decide) dL_append_18 ?_
    exact cr_iretc X rfl rfl (by decide) dL_append_19
theorem k_L_blade_1 : (Cond.classLink RL 21 "java/lang/IndexOutOfBoundsException") ∈ wsL_blade := List.mem_of_getElem? (i := 1) (by rfl)
theorem k_L_blade_2 : (Cond.classLink RL 13 "java/lang/IllegalArgumentException") ∈ wsL_blade := List.mem_of_getElem? (i := 2) (by rfl)
abbrev rm_L_blade : Room := { frames := 7, cells := 2, slots := 12, locals := 104 }
set_option maxHeartbeats 4000000 in
set_option maxRecDepth 100000 in
theorem c_L_blade (l : Launch) (hl : l.stackTraces = false) (E : cr_E) (hEK : cr_EK E) (S : cr_S) (p1 : Int32) (p2 : Int32) : cr_Mc l E yL_blade wsL_blade rm_L_blade 2 12 [.ref (E.2.1 8 0), .int p1, .int p2, .ref (E.2.1 10 0)] S cr_vIS (s_L_blade p1 p2 S) := by
  refine cr_enterc (cc := cL_blade) (nL := 5) (rt := (some .int)) (hh := [(0, 10, 13, 21), (0, 10, 17, 13)]) hEK (by decide) rfl (Nat.le_of_ble_eq_true rfl) (fun Γ hΓ X NC htab => ?_)
  subst hΓ
  have Yl := hl
  have X : cr_X Γ E cL_blade 5 RL wsL_blade rm_L_blade (some .int) := X
  unfold s_L_blade
  show cr_P Γ E 5 _ 0 0 S 0 ([(0, .ref (E.2.1 8 0)), (1, .int p1), (2, .int p2), (3, .ref (E.2.1 10 0))]) [] _
  refine cr_aload_n X 3 rfl dL_blade_0 ?_
  refine cr_iconst X (0 : Int32) (by decide) dL_blade_1 ?_
  refine cr_aload_n X 0 rfl dL_blade_2 ?_
  refine cr_iload_n X 1 rfl dL_blade_3 ?_
  refine cr_iload_n X 2 rfl dL_blade_4 ?_
  refine cr_callC2 X NC htab "java/lang/IndexOutOfBoundsException" "java/lang/IllegalArgumentException" (by decide +kernel) (by decide +kernel) (by decide +kernel) k_L_blade_1 k_L_blade_2 (As := [.int p1, .int p2]) (rest := [.int ((0 : Int32)), .ref (E.2.1 10 0)]) 2 12 (c_X8_blade Γ.2.1 Yl E hEK S p1 p2) ((cr_b0 E).at rfl rfl) rfl 2 gL_blade_X8_blade rfl rfl rfl (by decide +kernel) ⟨Nat.le_of_ble_eq_true rfl, Nat.le_of_ble_eq_true rfl⟩ (by decide) rfl rfl (Nat.le_of_ble_eq_true rfl) dL_blade_5 (by decide) (by decide) (by decide) ?_ ?_ ?_
  · intro q
    refine cr_astore X ([(4, .ref q), (0, .ref (E.2.1 8 0)), (1, .int p1), (2, .int p2), (3, .ref (E.2.1 10 0))]) rfl (by decide) dL_blade_13 ?_
    refine cr_iconst X (1 : Int32) (by decide) dL_blade_15 ?_
    exact cr_iretc X rfl rfl (by decide) dL_blade_16
  · intro q
    refine cr_astore X ([(4, .ref q), (0, .ref (E.2.1 8 0)), (1, .int p1), (2, .int p2), (3, .ref (E.2.1 10 0))]) rfl (by decide) dL_blade_17 ?_
    refine cr_iconst X (2 : Int32) (by decide) dL_blade_19 ?_
    exact cr_iretc X rfl rfl (by decide) dL_blade_20
  · intro r5_1
    show cr_P Γ E 5 _ 2 12 S 8 ([(0, .ref (E.2.1 8 0)), (1, .int p1), (2, .int p2), (3, .ref (E.2.1 10 0))]) ([.int r5_1, .int ((0 : Int32)), .ref (E.2.1 10 0)]) _
    refine cr_i2l X dL_blade_8 ?_
    refine cr_lastS X dL_blade_9 (fun S9_2 => ?_)
    refine cr_goto X 21 dL_blade_10 rfl ?_
    refine cr_iconst X (0 : Int32) (by decide) dL_blade_21 ?_
    exact cr_iretc X rfl rfl (by decide) dL_blade_22
theorem k_L_bog_1 : (Cond.classLink RL 21 "java/lang/IndexOutOfBoundsException") ∈ wsL_bog := List.mem_of_getElem? (i := 1) (by rfl)
theorem k_L_bog_2 : (Cond.classLink RL 13 "java/lang/IllegalArgumentException") ∈ wsL_bog := List.mem_of_getElem? (i := 2) (by rfl)
abbrev rm_L_bog : Room := { frames := 7, cells := 2, slots := 12, locals := 104 }
set_option maxHeartbeats 4000000 in
set_option maxRecDepth 100000 in
theorem c_L_bog (l : Launch) (hl : l.stackTraces = false) (E : cr_E) (hEK : cr_EK E) (S : cr_S) (p1 : Int32) (p2 : Int32) : cr_Mc l E yL_bog wsL_bog rm_L_bog 2 12 [.ref (E.2.1 8 0), .int p1, .int p2, .ref (E.2.1 10 0)] S cr_vIS (s_L_bog p1 p2 S) := by
  refine cr_enterc (cc := cL_bog) (nL := 5) (rt := (some .int)) (hh := [(0, 10, 13, 21), (0, 10, 17, 13)]) hEK (by decide) rfl (Nat.le_of_ble_eq_true rfl) (fun Γ hΓ X NC htab => ?_)
  subst hΓ
  have Yl := hl
  have X : cr_X Γ E cL_bog 5 RL wsL_bog rm_L_bog (some .int) := X
  unfold s_L_bog
  show cr_P Γ E 5 _ 0 0 S 0 ([(0, .ref (E.2.1 8 0)), (1, .int p1), (2, .int p2), (3, .ref (E.2.1 10 0))]) [] _
  refine cr_aload_n X 3 rfl dL_bog_0 ?_
  refine cr_iconst X (0 : Int32) (by decide) dL_bog_1 ?_
  refine cr_aload_n X 0 rfl dL_bog_2 ?_
  refine cr_iload_n X 1 rfl dL_bog_3 ?_
  refine cr_iload_n X 2 rfl dL_bog_4 ?_
  refine cr_callC2 X NC htab "java/lang/IndexOutOfBoundsException" "java/lang/IllegalArgumentException" (by decide +kernel) (by decide +kernel) (by decide +kernel) k_L_bog_1 k_L_bog_2 (As := [.int p1, .int p2]) (rest := [.int ((0 : Int32)), .ref (E.2.1 10 0)]) 2 12 (c_X8_bog Γ.2.1 Yl E hEK S p1 p2) ((cr_b0 E).at rfl rfl) rfl 2 gL_bog_X8_bog rfl rfl rfl (by decide +kernel) ⟨Nat.le_of_ble_eq_true rfl, Nat.le_of_ble_eq_true rfl⟩ (by decide) rfl rfl (Nat.le_of_ble_eq_true rfl) dL_bog_5 (by decide) (by decide) (by decide) ?_ ?_ ?_
  · intro q
    refine cr_astore X ([(4, .ref q), (0, .ref (E.2.1 8 0)), (1, .int p1), (2, .int p2), (3, .ref (E.2.1 10 0))]) rfl (by decide) dL_bog_13 ?_
    refine cr_iconst X (1 : Int32) (by decide) dL_bog_15 ?_
    exact cr_iretc X rfl rfl (by decide) dL_bog_16
  · intro q
    refine cr_astore X ([(4, .ref q), (0, .ref (E.2.1 8 0)), (1, .int p1), (2, .int p2), (3, .ref (E.2.1 10 0))]) rfl (by decide) dL_bog_17 ?_
    refine cr_iconst X (2 : Int32) (by decide) dL_bog_19 ?_
    exact cr_iretc X rfl rfl (by decide) dL_bog_20
  · intro r5_1
    show cr_P Γ E 5 _ 2 12 S 8 ([(0, .ref (E.2.1 8 0)), (1, .int p1), (2, .int p2), (3, .ref (E.2.1 10 0))]) ([.int r5_1, .int ((0 : Int32)), .ref (E.2.1 10 0)]) _
    refine cr_i2l X dL_bog_8 ?_
    refine cr_lastS X dL_bog_9 (fun S9_2 => ?_)
    refine cr_goto X 21 dL_bog_10 rfl ?_
    refine cr_iconst X (0 : Int32) (by decide) dL_bog_21 ?_
    exact cr_iretc X rfl rfl (by decide) dL_bog_22
theorem k_L_claims_1 : (Cond.classLink RL 13 "java/lang/IllegalArgumentException") ∈ wsL_claims := List.mem_of_getElem? (i := 1) (by rfl)
abbrev rm_L_claims : Room := { frames := 7, cells := 2, slots := 12, locals := 103 }
set_option maxHeartbeats 4000000 in
set_option maxRecDepth 100000 in
theorem c_L_claims (l : Launch) (hl : l.stackTraces = false) (E : cr_E) (hEK : cr_EK E) (S : cr_S) (p1 : Int32) : cr_Mc l E yL_claims wsL_claims rm_L_claims 2 12 [.ref (E.2.1 8 0), .int p1, .ref (E.2.1 10 0)] S cr_vIS (s_L_claims p1 S) := by
  refine cr_enterc (cc := cL_claims) (nL := 4) (rt := (some .int)) (hh := [(0, 9, 12, 13)]) hEK (by decide) rfl (Nat.le_of_ble_eq_true rfl) (fun Γ hΓ X NC htab => ?_)
  subst hΓ
  have Yl := hl
  have X : cr_X Γ E cL_claims 4 RL wsL_claims rm_L_claims (some .int) := X
  unfold s_L_claims
  show cr_P Γ E 4 _ 0 0 S 0 ([(0, .ref (E.2.1 8 0)), (1, .int p1), (2, .ref (E.2.1 10 0))]) [] _
  refine cr_aload_n X 2 rfl dL_claims_0 ?_
  refine cr_iconst X (0 : Int32) (by decide) dL_claims_1 ?_
  refine cr_aload_n X 0 rfl dL_claims_2 ?_
  refine cr_iload_n X 1 rfl dL_claims_3 ?_
  refine cr_callC1 X htab "java/lang/IllegalArgumentException" (by decide +kernel) k_L_claims_1 (As := [.int p1]) (rest := [.int ((0 : Int32)), .ref (E.2.1 10 0)]) 2 12 (c_X8_claims Γ.2.1 Yl E hEK S p1) ((cr_b0 E).at rfl rfl) rfl 1 gL_claims_X8_claims rfl rfl rfl (by decide +kernel) ⟨Nat.le_of_ble_eq_true rfl, Nat.le_of_ble_eq_true rfl⟩ (by decide) rfl rfl (Nat.le_of_ble_eq_true rfl) dL_claims_4 (by decide) (by decide) ?_ ?_
  · intro q
    refine cr_astore_n X ([(3, .ref q), (0, .ref (E.2.1 8 0)), (1, .int p1), (2, .ref (E.2.1 10 0))]) rfl (by decide) dL_claims_12 ?_
    refine cr_iconst X (1 : Int32) (by decide) dL_claims_13 ?_
    exact cr_iretc X rfl rfl (by decide) dL_claims_14
  · intro r4_1
    show cr_P Γ E 4 _ 2 12 S 7 ([(0, .ref (E.2.1 8 0)), (1, .int p1), (2, .ref (E.2.1 10 0))]) ([.int r4_1, .int ((0 : Int32)), .ref (E.2.1 10 0)]) _
    refine cr_i2l X dL_claims_7 ?_
    refine cr_lastS X dL_claims_8 (fun S8_2 => ?_)
    refine cr_goto X 15 dL_claims_9 rfl ?_
    refine cr_iconst X (0 : Int32) (by decide) dL_claims_15 ?_
    exact cr_iretc X rfl rfl (by decide) dL_claims_16
theorem k_L_count_1 : (Cond.classLink RL 13 "java/lang/IllegalArgumentException") ∈ wsL_count := List.mem_of_getElem? (i := 1) (by rfl)
abbrev rm_L_count : Room := { frames := 7, cells := 2, slots := 12, locals := 103 }
set_option maxHeartbeats 4000000 in
set_option maxRecDepth 100000 in
theorem c_L_count (l : Launch) (hl : l.stackTraces = false) (E : cr_E) (hEK : cr_EK E) (S : cr_S) (p1 : Int32) : cr_Mc l E yL_count wsL_count rm_L_count 2 12 [.ref (E.2.1 8 0), .int p1, .ref (E.2.1 10 0)] S cr_vIS (s_L_count p1 S) := by
  refine cr_enterc (cc := cL_count) (nL := 4) (rt := (some .int)) (hh := [(0, 9, 12, 13)]) hEK (by decide) rfl (Nat.le_of_ble_eq_true rfl) (fun Γ hΓ X NC htab => ?_)
  subst hΓ
  have Yl := hl
  have X : cr_X Γ E cL_count 4 RL wsL_count rm_L_count (some .int) := X
  unfold s_L_count
  show cr_P Γ E 4 _ 0 0 S 0 ([(0, .ref (E.2.1 8 0)), (1, .int p1), (2, .ref (E.2.1 10 0))]) [] _
  refine cr_aload_n X 2 rfl dL_count_0 ?_
  refine cr_iconst X (0 : Int32) (by decide) dL_count_1 ?_
  refine cr_aload_n X 0 rfl dL_count_2 ?_
  refine cr_iload_n X 1 rfl dL_count_3 ?_
  refine cr_callC1 X htab "java/lang/IllegalArgumentException" (by decide +kernel) k_L_count_1 (As := [.int p1]) (rest := [.int ((0 : Int32)), .ref (E.2.1 10 0)]) 2 12 (c_X8_count Γ.2.1 Yl E hEK S p1) ((cr_b0 E).at rfl rfl) rfl 1 gL_count_X8_count rfl rfl rfl (by decide +kernel) ⟨Nat.le_of_ble_eq_true rfl, Nat.le_of_ble_eq_true rfl⟩ (by decide) rfl rfl (Nat.le_of_ble_eq_true rfl) dL_count_4 (by decide) (by decide) ?_ ?_
  · intro q
    refine cr_astore_n X ([(3, .ref q), (0, .ref (E.2.1 8 0)), (1, .int p1), (2, .ref (E.2.1 10 0))]) rfl (by decide) dL_count_12 ?_
    refine cr_iconst X (1 : Int32) (by decide) dL_count_13 ?_
    exact cr_iretc X rfl rfl (by decide) dL_count_14
  · intro r4_1
    show cr_P Γ E 4 _ 2 12 S 7 ([(0, .ref (E.2.1 8 0)), (1, .int p1), (2, .ref (E.2.1 10 0))]) ([.int r4_1, .int ((0 : Int32)), .ref (E.2.1 10 0)]) _
    refine cr_i2l X dL_count_7 ?_
    refine cr_lastS X dL_count_8 (fun S8_2 => ?_)
    refine cr_goto X 15 dL_count_9 rfl ?_
    refine cr_iconst X (0 : Int32) (by decide) dL_count_15 ?_
    exact cr_iretc X rfl rfl (by decide) dL_count_16
theorem k_L_ifPassed_1 : (Cond.classLink RL 13 "java/lang/IllegalArgumentException") ∈ wsL_ifPassed := List.mem_of_getElem? (i := 1) (by rfl)
abbrev rm_L_ifPassed : Room := { frames := 7, cells := 2, slots := 12, locals := 141 }
set_option maxHeartbeats 4000000 in
set_option maxRecDepth 100000 in
theorem c_L_ifPassed (l : Launch) (hl : l.stackTraces = false) (E : cr_E) (hEK : cr_EK E) (S : cr_S) (p1 : Int32) (p2 : Int32) : cr_Mc l E yL_ifPassed wsL_ifPassed rm_L_ifPassed 2 12 [.ref (E.2.1 8 0), .int p1, .int p2, .ref (E.2.1 10 0)] S cr_vIS (s_L_ifPassed p1 p2 S) := by
  refine cr_enterc (cc := cL_ifPassed) (nL := 5) (rt := (some .int)) (hh := [(0, 10, 13, 13)]) hEK (by decide) rfl (Nat.le_of_ble_eq_true rfl) (fun Γ hΓ X NC htab => ?_)
  subst hΓ
  have Yl := hl
  have X : cr_X Γ E cL_ifPassed 5 RL wsL_ifPassed rm_L_ifPassed (some .int) := X
  unfold s_L_ifPassed
  show cr_P Γ E 5 _ 0 0 S 0 ([(0, .ref (E.2.1 8 0)), (1, .int p1), (2, .int p2), (3, .ref (E.2.1 10 0))]) [] _
  refine cr_aload_n X 3 rfl dL_ifPassed_0 ?_
  refine cr_iconst X (0 : Int32) (by decide) dL_ifPassed_1 ?_
  refine cr_aload_n X 0 rfl dL_ifPassed_2 ?_
  refine cr_iload_n X 1 rfl dL_ifPassed_3 ?_
  refine cr_iload_n X 2 rfl dL_ifPassed_4 ?_
  refine cr_callC1 X htab "java/lang/IllegalArgumentException" (by decide +kernel) k_L_ifPassed_1 (As := [.int p1, .int p2]) (rest := [.int ((0 : Int32)), .ref (E.2.1 10 0)]) 2 12 (c_X8_ifPassed Γ.2.1 Yl E hEK S p1 p2) ((cr_b0 E).at rfl rfl) rfl 2 gL_ifPassed_X8_ifPassed rfl rfl rfl (by decide +kernel) ⟨Nat.le_of_ble_eq_true rfl, Nat.le_of_ble_eq_true rfl⟩ (by decide) rfl rfl (Nat.le_of_ble_eq_true rfl) dL_ifPassed_5 (by decide) (by decide) ?_ ?_
  · intro q
    refine cr_astore X ([(4, .ref q), (0, .ref (E.2.1 8 0)), (1, .int p1), (2, .int p2), (3, .ref (E.2.1 10 0))]) rfl (by decide) dL_ifPassed_13 ?_
    refine cr_iconst X (1 : Int32) (by decide) dL_ifPassed_15 ?_
    exact cr_iretc X rfl rfl (by decide) dL_ifPassed_16
  · intro r5_1
    show cr_P Γ E 5 _ 2 12 r5_1.2 8 ([(0, .ref (E.2.1 8 0)), (1, .int p1), (2, .int p2), (3, .ref (E.2.1 10 0))]) ([.int r5_1.1, .int ((0 : Int32)), .ref (E.2.1 10 0)]) _
    refine cr_i2l X dL_ifPassed_8 ?_
    refine cr_lastS X dL_ifPassed_9 (fun S9_2 => ?_)
    refine cr_goto X 17 dL_ifPassed_10 rfl ?_
    refine cr_iconst X (0 : Int32) (by decide) dL_ifPassed_17 ?_
    exact cr_iretc X rfl rfl (by decide) dL_ifPassed_18
theorem k_L_load_1 : (Cond.classLink RL 13 "java/lang/IllegalArgumentException") ∈ wsL_load := List.mem_of_getElem? (i := 1) (by rfl)
theorem k_L_load_2 : (Cond.classLink RL 15 "java/lang/IllegalStateException") ∈ wsL_load := List.mem_of_getElem? (i := 2) (by rfl)
abbrev rm_L_load : Room := { frames := 7, cells := 2, slots := 12, locals := 123 }
set_option maxHeartbeats 4000000 in
set_option maxRecDepth 100000 in
theorem c_L_load (l : Launch) (hl : l.stackTraces = false) (E : cr_E) (hEK : cr_EK E) (S : cr_S) : cr_Mc l E yL_load wsL_load rm_L_load 2 12 [.ref (E.2.1 8 0), .ref (E.2.1 10 0)] S cr_vIS (s_L_load S) := by
  refine cr_enterc (cc := cL_load) (nL := 3) (rt := (some .int)) (hh := [(0, 8, 11, 13), (0, 8, 14, 15)]) hEK (by decide) rfl (Nat.le_of_ble_eq_true rfl) (fun Γ hΓ X NC htab => ?_)
  subst hΓ
  have Yl := hl
  have X : cr_X Γ E cL_load 3 RL wsL_load rm_L_load (some .int) := X
  unfold s_L_load
  show cr_P Γ E 3 _ 0 0 S 0 ([(0, .ref (E.2.1 8 0)), (1, .ref (E.2.1 10 0))]) [] _
  refine cr_aload_n X 1 rfl dL_load_0 ?_
  refine cr_iconst X (0 : Int32) (by decide) dL_load_1 ?_
  refine cr_aload_n X 0 rfl dL_load_2 ?_
  refine cr_callC2 X NC htab "java/lang/IllegalArgumentException" "java/lang/IllegalStateException" (by decide +kernel) (by decide +kernel) (by decide +kernel) k_L_load_1 k_L_load_2 (As := []) (rest := [.int ((0 : Int32)), .ref (E.2.1 10 0)]) 2 12 (c_X8_load Γ.2.1 Yl E hEK S) ((cr_b0 E).at rfl rfl) rfl 0 gL_load_X8_load rfl rfl rfl (by decide +kernel) ⟨Nat.le_of_ble_eq_true rfl, Nat.le_of_ble_eq_true rfl⟩ (by decide) rfl rfl (Nat.le_of_ble_eq_true rfl) dL_load_3 (by decide) (by decide) (by decide) ?_ ?_ ?_
  · intro q
    refine cr_astore_n X ([(2, .ref q), (0, .ref (E.2.1 8 0)), (1, .ref (E.2.1 10 0))]) rfl (by decide) dL_load_11 ?_
    refine cr_iconst X (1 : Int32) (by decide) dL_load_12 ?_
    exact cr_iretc X rfl rfl (by decide) dL_load_13
  · intro q
    refine cr_astore_n X ([(2, .ref q), (0, .ref (E.2.1 8 0)), (1, .ref (E.2.1 10 0))]) rfl (by decide) dL_load_14 ?_
    refine cr_iconst X (2 : Int32) (by decide) dL_load_15 ?_
    exact cr_iretc X rfl rfl (by decide) dL_load_16
  · intro r3_1
    show cr_P Γ E 3 _ 2 12 r3_1.2 6 ([(0, .ref (E.2.1 8 0)), (1, .ref (E.2.1 10 0))]) ([.int r3_1.1, .int ((0 : Int32)), .ref (E.2.1 10 0)]) _
    refine cr_i2l X dL_load_6 ?_
    refine cr_lastS X dL_load_7 (fun S7_2 => ?_)
    refine cr_goto X 17 dL_load_8 rfl ?_
    refine cr_iconst X (0 : Int32) (by decide) dL_load_17 ?_
    exact cr_iretc X rfl rfl (by decide) dL_load_18
theorem k_L_orderBlade_1 : (Cond.classLink RL 21 "java/lang/IndexOutOfBoundsException") ∈ wsL_orderBlade := List.mem_of_getElem? (i := 1) (by rfl)
theorem k_L_orderBlade_2 : (Cond.classLink RL 15 "java/lang/IllegalStateException") ∈ wsL_orderBlade := List.mem_of_getElem? (i := 2) (by rfl)
abbrev rm_L_orderBlade : Room := { frames := 8, cells := 2, slots := 12, locals := 124 }
set_option maxHeartbeats 4000000 in
set_option maxRecDepth 100000 in
theorem c_L_orderBlade (l : Launch) (hl : l.stackTraces = false) (E : cr_E) (hEK : cr_EK E) (S : cr_S) (p1 : Int32) : cr_Mc l E yL_orderBlade wsL_orderBlade rm_L_orderBlade 2 12 [.ref (E.2.1 8 0), .int p1, .ref (E.2.1 10 0)] S cr_vIS (s_L_orderBlade p1 S) := by
  refine cr_enterc (cc := cL_orderBlade) (nL := 4) (rt := (some .int)) (hh := [(0, 9, 12, 21), (0, 9, 15, 15)]) hEK (by decide) rfl (Nat.le_of_ble_eq_true rfl) (fun Γ hΓ X NC htab => ?_)
  subst hΓ
  have Yl := hl
  have X : cr_X Γ E cL_orderBlade 4 RL wsL_orderBlade rm_L_orderBlade (some .int) := X
  unfold s_L_orderBlade
  show cr_P Γ E 4 _ 0 0 S 0 ([(0, .ref (E.2.1 8 0)), (1, .int p1), (2, .ref (E.2.1 10 0))]) [] _
  refine cr_aload_n X 2 rfl dL_orderBlade_0 ?_
  refine cr_iconst X (0 : Int32) (by decide) dL_orderBlade_1 ?_
  refine cr_aload_n X 0 rfl dL_orderBlade_2 ?_
  refine cr_iload_n X 1 rfl dL_orderBlade_3 ?_
  refine cr_callC2 X NC htab "java/lang/IndexOutOfBoundsException" "java/lang/IllegalStateException" (by decide +kernel) (by decide +kernel) (by decide +kernel) k_L_orderBlade_1 k_L_orderBlade_2 (As := [.int p1]) (rest := [.int ((0 : Int32)), .ref (E.2.1 10 0)]) 2 12 (c_X8_orderBlade Γ.2.1 Yl E hEK S p1) ((cr_b0 E).at rfl rfl) rfl 1 gL_orderBlade_X8_orderBlade rfl rfl rfl (by decide +kernel) ⟨Nat.le_of_ble_eq_true rfl, Nat.le_of_ble_eq_true rfl⟩ (by decide) rfl rfl (Nat.le_of_ble_eq_true rfl) dL_orderBlade_4 (by decide) (by decide) (by decide) ?_ ?_ ?_
  · intro q
    refine cr_astore_n X ([(3, .ref q), (0, .ref (E.2.1 8 0)), (1, .int p1), (2, .ref (E.2.1 10 0))]) rfl (by decide) dL_orderBlade_12 ?_
    refine cr_iconst X (1 : Int32) (by decide) dL_orderBlade_13 ?_
    exact cr_iretc X rfl rfl (by decide) dL_orderBlade_14
  · intro q
    refine cr_astore_n X ([(3, .ref q), (0, .ref (E.2.1 8 0)), (1, .int p1), (2, .ref (E.2.1 10 0))]) rfl (by decide) dL_orderBlade_15 ?_
    refine cr_iconst X (2 : Int32) (by decide) dL_orderBlade_16 ?_
    exact cr_iretc X rfl rfl (by decide) dL_orderBlade_17
  · intro r4_1
    show cr_P Γ E 4 _ 2 12 r4_1.2 7 ([(0, .ref (E.2.1 8 0)), (1, .int p1), (2, .ref (E.2.1 10 0))]) ([.int r4_1.1, .int ((0 : Int32)), .ref (E.2.1 10 0)]) _
    refine cr_i2l X dL_orderBlade_7 ?_
    refine cr_lastS X dL_orderBlade_8 (fun S8_2 => ?_)
    refine cr_goto X 18 dL_orderBlade_9 rfl ?_
    refine cr_iconst X (0 : Int32) (by decide) dL_orderBlade_18 ?_
    exact cr_iretc X rfl rfl (by decide) dL_orderBlade_19
theorem k_L_pass_1 : (Cond.classLink RL 13 "java/lang/IllegalArgumentException") ∈ wsL_pass := List.mem_of_getElem? (i := 1) (by rfl)
theorem k_L_pass_2 : (Cond.classLink RL 15 "java/lang/IllegalStateException") ∈ wsL_pass := List.mem_of_getElem? (i := 2) (by rfl)
abbrev rm_L_pass : Room := { frames := 7, cells := 2, slots := 12, locals := 140 }
set_option maxHeartbeats 4000000 in
set_option maxRecDepth 100000 in
theorem c_L_pass (l : Launch) (hl : l.stackTraces = false) (E : cr_E) (hEK : cr_EK E) (S : cr_S) (p1 : Int32) : cr_Mc l E yL_pass wsL_pass rm_L_pass 2 12 [.ref (E.2.1 8 0), .int p1, .ref (E.2.1 10 0)] S cr_vIS (s_L_pass p1 S) := by
  refine cr_enterc (cc := cL_pass) (nL := 4) (rt := (some .int)) (hh := [(0, 9, 12, 13), (0, 9, 15, 15)]) hEK (by decide) rfl (Nat.le_of_ble_eq_true rfl) (fun Γ hΓ X NC htab => ?_)
  subst hΓ
  have Yl := hl
  have X : cr_X Γ E cL_pass 4 RL wsL_pass rm_L_pass (some .int) := X
  unfold s_L_pass
  show cr_P Γ E 4 _ 0 0 S 0 ([(0, .ref (E.2.1 8 0)), (1, .int p1), (2, .ref (E.2.1 10 0))]) [] _
  refine cr_aload_n X 2 rfl dL_pass_0 ?_
  refine cr_iconst X (0 : Int32) (by decide) dL_pass_1 ?_
  refine cr_aload_n X 0 rfl dL_pass_2 ?_
  refine cr_iload_n X 1 rfl dL_pass_3 ?_
  refine cr_callC2 X NC htab "java/lang/IllegalArgumentException" "java/lang/IllegalStateException" (by decide +kernel) (by decide +kernel) (by decide +kernel) k_L_pass_1 k_L_pass_2 (As := [.int p1]) (rest := [.int ((0 : Int32)), .ref (E.2.1 10 0)]) 2 12 (c_X8_pass Γ.2.1 Yl E hEK S p1) ((cr_b0 E).at rfl rfl) rfl 1 gL_pass_X8_pass rfl rfl rfl (by decide +kernel) ⟨Nat.le_of_ble_eq_true rfl, Nat.le_of_ble_eq_true rfl⟩ (by decide) rfl rfl (Nat.le_of_ble_eq_true rfl) dL_pass_4 (by decide) (by decide) (by decide) ?_ ?_ ?_
  · intro q
    refine cr_astore_n X ([(3, .ref q), (0, .ref (E.2.1 8 0)), (1, .int p1), (2, .ref (E.2.1 10 0))]) rfl (by decide) dL_pass_12 ?_
    refine cr_iconst X (1 : Int32) (by decide) dL_pass_13 ?_
    exact cr_iretc X rfl rfl (by decide) dL_pass_14
  · intro q
    refine cr_astore_n X ([(3, .ref q), (0, .ref (E.2.1 8 0)), (1, .int p1), (2, .ref (E.2.1 10 0))]) rfl (by decide) dL_pass_15 ?_
    refine cr_iconst X (2 : Int32) (by decide) dL_pass_16 ?_
    exact cr_iretc X rfl rfl (by decide) dL_pass_17
  · intro r4_1
    show cr_P Γ E 4 _ 2 12 r4_1.2 7 ([(0, .ref (E.2.1 8 0)), (1, .int p1), (2, .ref (E.2.1 10 0))]) ([.int r4_1.1, .int ((0 : Int32)), .ref (E.2.1 10 0)]) _
    refine cr_i2l X dL_pass_7 ?_
    refine cr_lastS X dL_pass_8 (fun S8_2 => ?_)
    refine cr_goto X 18 dL_pass_9 rfl ?_
    refine cr_iconst X (0 : Int32) (by decide) dL_pass_18 ?_
    exact cr_iretc X rfl rfl (by decide) dL_pass_19
theorem k_L_plan_1 : (Cond.classLink RL 21 "java/lang/IndexOutOfBoundsException") ∈ wsL_plan := List.mem_of_getElem? (i := 1) (by rfl)
abbrev rm_L_plan : Room := { frames := 8, cells := 2, slots := 12, locals := 125 }
set_option maxHeartbeats 4000000 in
set_option maxRecDepth 100000 in
theorem c_L_plan (l : Launch) (hl : l.stackTraces = false) (E : cr_E) (hEK : cr_EK E) (S : cr_S) (p1 : Int32) (p2 : Int32) : cr_Mc l E yL_plan wsL_plan rm_L_plan 2 12 [.ref (E.2.1 8 0), .int p1, .int p2, .ref (E.2.1 10 0)] S cr_vIS (s_L_plan p1 p2 S) := by
  refine cr_enterc (cc := cL_plan) (nL := 5) (rt := (some .int)) (hh := [(0, 10, 13, 21)]) hEK (by decide) rfl (Nat.le_of_ble_eq_true rfl) (fun Γ hΓ X NC htab => ?_)
  subst hΓ
  have Yl := hl
  have X : cr_X Γ E cL_plan 5 RL wsL_plan rm_L_plan (some .int) := X
  unfold s_L_plan
  show cr_P Γ E 5 _ 0 0 S 0 ([(0, .ref (E.2.1 8 0)), (1, .int p1), (2, .int p2), (3, .ref (E.2.1 10 0))]) [] _
  refine cr_aload_n X 3 rfl dL_plan_0 ?_
  refine cr_iconst X (0 : Int32) (by decide) dL_plan_1 ?_
  refine cr_aload_n X 0 rfl dL_plan_2 ?_
  refine cr_iload_n X 1 rfl dL_plan_3 ?_
  refine cr_iload_n X 2 rfl dL_plan_4 ?_
  refine cr_callC1 X htab "java/lang/IndexOutOfBoundsException" (by decide +kernel) k_L_plan_1 (As := [.int p1, .int p2]) (rest := [.int ((0 : Int32)), .ref (E.2.1 10 0)]) 2 12 (c_X8_plan Γ.2.1 Yl E hEK S p1 p2) ((cr_b0 E).at rfl rfl) rfl 2 gL_plan_X8_plan rfl rfl rfl (by decide +kernel) ⟨Nat.le_of_ble_eq_true rfl, Nat.le_of_ble_eq_true rfl⟩ (by decide) rfl rfl (Nat.le_of_ble_eq_true rfl) dL_plan_5 (by decide) (by decide) ?_ ?_
  · intro q
    refine cr_astore X ([(4, .ref q), (0, .ref (E.2.1 8 0)), (1, .int p1), (2, .int p2), (3, .ref (E.2.1 10 0))]) rfl (by decide) dL_plan_13 ?_
    refine cr_iconst X (1 : Int32) (by decide) dL_plan_15 ?_
    exact cr_iretc X rfl rfl (by decide) dL_plan_16
  · intro r5_1
    show cr_P Γ E 5 _ 2 12 r5_1.2 8 ([(0, .ref (E.2.1 8 0)), (1, .int p1), (2, .int p2), (3, .ref (E.2.1 10 0))]) ([.int r5_1.1, .int ((0 : Int32)), .ref (E.2.1 10 0)]) _
    refine cr_i2l X dL_plan_8 ?_
    refine cr_lastS X dL_plan_9 (fun S9_2 => ?_)
    refine cr_goto X 17 dL_plan_10 rfl ?_
    refine cr_iconst X (0 : Int32) (by decide) dL_plan_17 ?_
    exact cr_iretc X rfl rfl (by decide) dL_plan_18
theorem k_L_set_1 : (Cond.classLink RL 21 "java/lang/IndexOutOfBoundsException") ∈ wsL_set := List.mem_of_getElem? (i := 1) (by rfl)
theorem k_L_set_2 : (Cond.classLink RL 13 "java/lang/IllegalArgumentException") ∈ wsL_set := List.mem_of_getElem? (i := 2) (by rfl)
abbrev rm_L_set : Room := { frames := 8, cells := 2, slots := 12, locals := 126 }
set_option maxHeartbeats 4000000 in
set_option maxRecDepth 100000 in
theorem c_L_set (l : Launch) (hl : l.stackTraces = false) (E : cr_E) (hEK : cr_EK E) (S : cr_S) (p1 : Int32) (p2 : Int32) : cr_Mc l E yL_set wsL_set rm_L_set 2 12 [.ref (E.2.1 8 0), .int p1, .int p2, .ref (E.2.1 10 0)] S cr_vIS (s_L_set p1 p2 S) := by
  refine cr_enterc (cc := cL_set) (nL := 5) (rt := (some .int)) (hh := [(0, 10, 13, 21), (0, 10, 17, 13)]) hEK (by decide) rfl (Nat.le_of_ble_eq_true rfl) (fun Γ hΓ X NC htab => ?_)
  subst hΓ
  have Yl := hl
  have X : cr_X Γ E cL_set 5 RL wsL_set rm_L_set (some .int) := X
  unfold s_L_set
  show cr_P Γ E 5 _ 0 0 S 0 ([(0, .ref (E.2.1 8 0)), (1, .int p1), (2, .int p2), (3, .ref (E.2.1 10 0))]) [] _
  refine cr_aload_n X 3 rfl dL_set_0 ?_
  refine cr_iconst X (0 : Int32) (by decide) dL_set_1 ?_
  refine cr_aload_n X 0 rfl dL_set_2 ?_
  refine cr_iload_n X 1 rfl dL_set_3 ?_
  refine cr_iload_n X 2 rfl dL_set_4 ?_
  refine cr_callC2 X NC htab "java/lang/IndexOutOfBoundsException" "java/lang/IllegalArgumentException" (by decide +kernel) (by decide +kernel) (by decide +kernel) k_L_set_1 k_L_set_2 (As := [.int p1, .int p2]) (rest := [.int ((0 : Int32)), .ref (E.2.1 10 0)]) 2 12 (c_X8_set Γ.2.1 Yl E hEK S p1 p2) ((cr_b0 E).at rfl rfl) rfl 2 gL_set_X8_set rfl rfl rfl (by decide +kernel) ⟨Nat.le_of_ble_eq_true rfl, Nat.le_of_ble_eq_true rfl⟩ (by decide) rfl rfl (Nat.le_of_ble_eq_true rfl) dL_set_5 (by decide) (by decide) (by decide) ?_ ?_ ?_
  · intro q
    refine cr_astore X ([(4, .ref q), (0, .ref (E.2.1 8 0)), (1, .int p1), (2, .int p2), (3, .ref (E.2.1 10 0))]) rfl (by decide) dL_set_13 ?_
    refine cr_iconst X (1 : Int32) (by decide) dL_set_15 ?_
    exact cr_iretc X rfl rfl (by decide) dL_set_16
  · intro q
    refine cr_astore X ([(4, .ref q), (0, .ref (E.2.1 8 0)), (1, .int p1), (2, .int p2), (3, .ref (E.2.1 10 0))]) rfl (by decide) dL_set_17 ?_
    refine cr_iconst X (2 : Int32) (by decide) dL_set_19 ?_
    exact cr_iretc X rfl rfl (by decide) dL_set_20
  · intro r5_1
    show cr_P Γ E 5 _ 2 12 r5_1.2 8 ([(0, .ref (E.2.1 8 0)), (1, .int p1), (2, .int p2), (3, .ref (E.2.1 10 0))]) ([.int r5_1.1, .int ((0 : Int32)), .ref (E.2.1 10 0)]) _
    refine cr_i2l X dL_set_8 ?_
    refine cr_lastS X dL_set_9 (fun S9_2 => ?_)
    refine cr_goto X 21 dL_set_10 rfl ?_
    refine cr_iconst X (0 : Int32) (by decide) dL_set_21 ?_
    exact cr_iretc X rfl rfl (by decide) dL_set_22
theorem k_L_setBog_1 : (Cond.classLink RL 13 "java/lang/IllegalArgumentException") ∈ wsL_setBog := List.mem_of_getElem? (i := 1) (by rfl)
theorem k_L_setBog_2 : (Cond.classLink RL 15 "java/lang/IllegalStateException") ∈ wsL_setBog := List.mem_of_getElem? (i := 2) (by rfl)
abbrev rm_L_setBog : Room := { frames := 7, cells := 2, slots := 12, locals := 125 }
set_option maxHeartbeats 4000000 in
set_option maxRecDepth 100000 in
theorem c_L_setBog (l : Launch) (hl : l.stackTraces = false) (E : cr_E) (hEK : cr_EK E) (S : cr_S) (p1 : Int32) (p2 : Int32) : cr_Mc l E yL_setBog wsL_setBog rm_L_setBog 2 12 [.ref (E.2.1 8 0), .int p1, .int p2, .ref (E.2.1 10 0)] S cr_vIS (s_L_setBog p1 p2 S) := by
  refine cr_enterc (cc := cL_setBog) (nL := 5) (rt := (some .int)) (hh := [(0, 10, 13, 13), (0, 10, 17, 15)]) hEK (by decide) rfl (Nat.le_of_ble_eq_true rfl) (fun Γ hΓ X NC htab => ?_)
  subst hΓ
  have Yl := hl
  have X : cr_X Γ E cL_setBog 5 RL wsL_setBog rm_L_setBog (some .int) := X
  unfold s_L_setBog
  show cr_P Γ E 5 _ 0 0 S 0 ([(0, .ref (E.2.1 8 0)), (1, .int p1), (2, .int p2), (3, .ref (E.2.1 10 0))]) [] _
  refine cr_aload_n X 3 rfl dL_setBog_0 ?_
  refine cr_iconst X (0 : Int32) (by decide) dL_setBog_1 ?_
  refine cr_aload_n X 0 rfl dL_setBog_2 ?_
  refine cr_iload_n X 1 rfl dL_setBog_3 ?_
  refine cr_iload_n X 2 rfl dL_setBog_4 ?_
  refine cr_callC2 X NC htab "java/lang/IllegalArgumentException" "java/lang/IllegalStateException" (by decide +kernel) (by decide +kernel) (by decide +kernel) k_L_setBog_1 k_L_setBog_2 (As := [.int p1, .int p2]) (rest := [.int ((0 : Int32)), .ref (E.2.1 10 0)]) 2 12 (c_X8_setBog Γ.2.1 Yl E hEK S p1 p2) ((cr_b0 E).at rfl rfl) rfl 2 gL_setBog_X8_setBog rfl rfl rfl (by decide +kernel) ⟨Nat.le_of_ble_eq_true rfl, Nat.le_of_ble_eq_true rfl⟩ (by decide) rfl rfl (Nat.le_of_ble_eq_true rfl) dL_setBog_5 (by decide) (by decide) (by decide) ?_ ?_ ?_
  · intro q
    refine cr_astore X ([(4, .ref q), (0, .ref (E.2.1 8 0)), (1, .int p1), (2, .int p2), (3, .ref (E.2.1 10 0))]) rfl (by decide) dL_setBog_13 ?_
    refine cr_iconst X (1 : Int32) (by decide) dL_setBog_15 ?_
    exact cr_iretc X rfl rfl (by decide) dL_setBog_16
  · intro q
    refine cr_astore X ([(4, .ref q), (0, .ref (E.2.1 8 0)), (1, .int p1), (2, .int p2), (3, .ref (E.2.1 10 0))]) rfl (by decide) dL_setBog_17 ?_
    refine cr_iconst X (2 : Int32) (by decide) dL_setBog_19 ?_
    exact cr_iretc X rfl rfl (by decide) dL_setBog_20
  · intro r5_1
    show cr_P Γ E 5 _ 2 12 r5_1.2 8 ([(0, .ref (E.2.1 8 0)), (1, .int p1), (2, .int p2), (3, .ref (E.2.1 10 0))]) ([.int r5_1.1, .int ((0 : Int32)), .ref (E.2.1 10 0)]) _
    refine cr_i2l X dL_setBog_8 ?_
    refine cr_lastS X dL_setBog_9 (fun S9_2 => ?_)
    refine cr_goto X 21 dL_setBog_10 rfl ?_
    refine cr_iconst X (0 : Int32) (by decide) dL_setBog_21 ?_
    exact cr_iretc X rfl rfl (by decide) dL_setBog_22
theorem k_L_setFault_1 : (Cond.classLink RL 21 "java/lang/IndexOutOfBoundsException") ∈ wsL_setFault := List.mem_of_getElem? (i := 1) (by rfl)
theorem k_L_setFault_2 : (Cond.classLink RL 13 "java/lang/IllegalArgumentException") ∈ wsL_setFault := List.mem_of_getElem? (i := 2) (by rfl)
abbrev rm_L_setFault : Room := { frames := 8, cells := 2, slots := 12, locals := 127 }
set_option maxHeartbeats 4000000 in
set_option maxRecDepth 100000 in
theorem c_L_setFault (l : Launch) (hl : l.stackTraces = false) (E : cr_E) (hEK : cr_EK E) (S : cr_S) (p1 : Int32) (p2 : Int32) : cr_Mc l E yL_setFault wsL_setFault rm_L_setFault 2 12 [.ref (E.2.1 8 0), .int p1, .int p2, .ref (E.2.1 10 0)] S cr_vIS (s_L_setFault p1 p2 S) := by
  refine cr_enterc (cc := cL_setFault) (nL := 5) (rt := (some .int)) (hh := [(0, 10, 13, 21), (0, 10, 17, 13)]) hEK (by decide) rfl (Nat.le_of_ble_eq_true rfl) (fun Γ hΓ X NC htab => ?_)
  subst hΓ
  have Yl := hl
  have X : cr_X Γ E cL_setFault 5 RL wsL_setFault rm_L_setFault (some .int) := X
  unfold s_L_setFault
  show cr_P Γ E 5 _ 0 0 S 0 ([(0, .ref (E.2.1 8 0)), (1, .int p1), (2, .int p2), (3, .ref (E.2.1 10 0))]) [] _
  refine cr_aload_n X 3 rfl dL_setFault_0 ?_
  refine cr_iconst X (0 : Int32) (by decide) dL_setFault_1 ?_
  refine cr_aload_n X 0 rfl dL_setFault_2 ?_
  refine cr_iload_n X 1 rfl dL_setFault_3 ?_
  refine cr_iload_n X 2 rfl dL_setFault_4 ?_
  refine cr_callC2 X NC htab "java/lang/IndexOutOfBoundsException" "java/lang/IllegalArgumentException" (by decide +kernel) (by decide +kernel) (by decide +kernel) k_L_setFault_1 k_L_setFault_2 (As := [.int p1, .int p2]) (rest := [.int ((0 : Int32)), .ref (E.2.1 10 0)]) 2 12 (c_X8_setFault Γ.2.1 Yl E hEK S p1 p2) ((cr_b0 E).at rfl rfl) rfl 2 gL_setFault_X8_setFault rfl rfl rfl (by decide +kernel) ⟨Nat.le_of_ble_eq_true rfl, Nat.le_of_ble_eq_true rfl⟩ (by decide) rfl rfl (Nat.le_of_ble_eq_true rfl) dL_setFault_5 (by decide) (by decide) (by decide) ?_ ?_ ?_
  · intro q
    refine cr_astore X ([(4, .ref q), (0, .ref (E.2.1 8 0)), (1, .int p1), (2, .int p2), (3, .ref (E.2.1 10 0))]) rfl (by decide) dL_setFault_13 ?_
    refine cr_iconst X (1 : Int32) (by decide) dL_setFault_15 ?_
    exact cr_iretc X rfl rfl (by decide) dL_setFault_16
  · intro q
    refine cr_astore X ([(4, .ref q), (0, .ref (E.2.1 8 0)), (1, .int p1), (2, .int p2), (3, .ref (E.2.1 10 0))]) rfl (by decide) dL_setFault_17 ?_
    refine cr_iconst X (2 : Int32) (by decide) dL_setFault_19 ?_
    exact cr_iretc X rfl rfl (by decide) dL_setFault_20
  · intro r5_1
    show cr_P Γ E 5 _ 2 12 r5_1.2 8 ([(0, .ref (E.2.1 8 0)), (1, .int p1), (2, .int p2), (3, .ref (E.2.1 10 0))]) ([.int r5_1.1, .int ((0 : Int32)), .ref (E.2.1 10 0)]) _
    refine cr_i2l X dL_setFault_8 ?_
    refine cr_lastS X dL_setFault_9 (fun S9_2 => ?_)
    refine cr_goto X 21 dL_setFault_10 rfl ?_
    refine cr_iconst X (0 : Int32) (by decide) dL_setFault_21 ?_
    exact cr_iretc X rfl rfl (by decide) dL_setFault_22
theorem k_L_setting_1 : (Cond.classLink RL 21 "java/lang/IndexOutOfBoundsException") ∈ wsL_setting := List.mem_of_getElem? (i := 1) (by rfl)
abbrev rm_L_setting : Room := { frames := 8, cells := 2, slots := 12, locals := 123 }
set_option maxHeartbeats 4000000 in
set_option maxRecDepth 100000 in
theorem c_L_setting (l : Launch) (hl : l.stackTraces = false) (E : cr_E) (hEK : cr_EK E) (S : cr_S) (p1 : Int32) : cr_Mc l E yL_setting wsL_setting rm_L_setting 2 12 [.ref (E.2.1 8 0), .int p1, .ref (E.2.1 10 0)] S cr_vIS (s_L_setting p1 S) := by
  refine cr_enterc (cc := cL_setting) (nL := 4) (rt := (some .int)) (hh := [(0, 9, 12, 21)]) hEK (by decide) rfl (Nat.le_of_ble_eq_true rfl) (fun Γ hΓ X NC htab => ?_)
  subst hΓ
  have Yl := hl
  have X : cr_X Γ E cL_setting 4 RL wsL_setting rm_L_setting (some .int) := X
  unfold s_L_setting
  show cr_P Γ E 4 _ 0 0 S 0 ([(0, .ref (E.2.1 8 0)), (1, .int p1), (2, .ref (E.2.1 10 0))]) [] _
  refine cr_aload_n X 2 rfl dL_setting_0 ?_
  refine cr_iconst X (0 : Int32) (by decide) dL_setting_1 ?_
  refine cr_aload_n X 0 rfl dL_setting_2 ?_
  refine cr_iload_n X 1 rfl dL_setting_3 ?_
  refine cr_callC1 X htab "java/lang/IndexOutOfBoundsException" (by decide +kernel) k_L_setting_1 (As := [.int p1]) (rest := [.int ((0 : Int32)), .ref (E.2.1 10 0)]) 2 12 (c_X8_setting Γ.2.1 Yl E hEK S p1) ((cr_b0 E).at rfl rfl) rfl 1 gL_setting_X8_setting rfl rfl rfl (by decide +kernel) ⟨Nat.le_of_ble_eq_true rfl, Nat.le_of_ble_eq_true rfl⟩ (by decide) rfl rfl (Nat.le_of_ble_eq_true rfl) dL_setting_4 (by decide) (by decide) ?_ ?_
  · intro q
    refine cr_astore_n X ([(3, .ref q), (0, .ref (E.2.1 8 0)), (1, .int p1), (2, .ref (E.2.1 10 0))]) rfl (by decide) dL_setting_12 ?_
    refine cr_iconst X (1 : Int32) (by decide) dL_setting_13 ?_
    exact cr_iretc X rfl rfl (by decide) dL_setting_14
  · intro r4_1
    show cr_P Γ E 4 _ 2 12 S 7 ([(0, .ref (E.2.1 8 0)), (1, .int p1), (2, .ref (E.2.1 10 0))]) ([.int r4_1, .int ((0 : Int32)), .ref (E.2.1 10 0)]) _
    refine cr_i2l X dL_setting_7 ?_
    refine cr_lastS X dL_setting_8 (fun S8_2 => ?_)
    refine cr_goto X 15 dL_setting_9 rfl ?_
    refine cr_iconst X (0 : Int32) (by decide) dL_setting_15 ?_
    exact cr_iretc X rfl rfl (by decide) dL_setting_16
theorem k_L_turbine_1 : (Cond.classLink RL 21 "java/lang/IndexOutOfBoundsException") ∈ wsL_turbine := List.mem_of_getElem? (i := 1) (by rfl)
theorem k_L_turbine_2 : (Cond.classLink RL 13 "java/lang/IllegalArgumentException") ∈ wsL_turbine := List.mem_of_getElem? (i := 2) (by rfl)
abbrev rm_L_turbine : Room := { frames := 8, cells := 2, slots := 12, locals := 125 }
set_option maxHeartbeats 4000000 in
set_option maxRecDepth 100000 in
theorem c_L_turbine (l : Launch) (hl : l.stackTraces = false) (E : cr_E) (hEK : cr_EK E) (S : cr_S) (p1 : Int32) (p2 : Int32) : cr_Mc l E yL_turbine wsL_turbine rm_L_turbine 2 12 [.ref (E.2.1 8 0), .int p1, .int p2, .ref (E.2.1 10 0)] S cr_vIS (s_L_turbine p1 p2 S) := by
  refine cr_enterc (cc := cL_turbine) (nL := 5) (rt := (some .int)) (hh := [(0, 10, 13, 21), (0, 10, 17, 13)]) hEK (by decide) rfl (Nat.le_of_ble_eq_true rfl) (fun Γ hΓ X NC htab => ?_)
  subst hΓ
  have Yl := hl
  have X : cr_X Γ E cL_turbine 5 RL wsL_turbine rm_L_turbine (some .int) := X
  unfold s_L_turbine
  show cr_P Γ E 5 _ 0 0 S 0 ([(0, .ref (E.2.1 8 0)), (1, .int p1), (2, .int p2), (3, .ref (E.2.1 10 0))]) [] _
  refine cr_aload_n X 3 rfl dL_turbine_0 ?_
  refine cr_iconst X (0 : Int32) (by decide) dL_turbine_1 ?_
  refine cr_aload_n X 0 rfl dL_turbine_2 ?_
  refine cr_iload_n X 1 rfl dL_turbine_3 ?_
  refine cr_iload_n X 2 rfl dL_turbine_4 ?_
  refine cr_callC2 X NC htab "java/lang/IndexOutOfBoundsException" "java/lang/IllegalArgumentException" (by decide +kernel) (by decide +kernel) (by decide +kernel) k_L_turbine_1 k_L_turbine_2 (As := [.int p1, .int p2]) (rest := [.int ((0 : Int32)), .ref (E.2.1 10 0)]) 2 12 (c_X8_turbine Γ.2.1 Yl E hEK S p1 p2) ((cr_b0 E).at rfl rfl) rfl 2 gL_turbine_X8_turbine rfl rfl rfl (by decide +kernel) ⟨Nat.le_of_ble_eq_true rfl, Nat.le_of_ble_eq_true rfl⟩ (by decide) rfl rfl (Nat.le_of_ble_eq_true rfl) dL_turbine_5 (by decide) (by decide) (by decide) ?_ ?_ ?_
  · intro q
    refine cr_astore X ([(4, .ref q), (0, .ref (E.2.1 8 0)), (1, .int p1), (2, .int p2), (3, .ref (E.2.1 10 0))]) rfl (by decide) dL_turbine_13 ?_
    refine cr_iconst X (1 : Int32) (by decide) dL_turbine_15 ?_
    exact cr_iretc X rfl rfl (by decide) dL_turbine_16
  · intro q
    refine cr_astore X ([(4, .ref q), (0, .ref (E.2.1 8 0)), (1, .int p1), (2, .int p2), (3, .ref (E.2.1 10 0))]) rfl (by decide) dL_turbine_17 ?_
    refine cr_iconst X (2 : Int32) (by decide) dL_turbine_19 ?_
    exact cr_iretc X rfl rfl (by decide) dL_turbine_20
  · intro r5_1
    show cr_P Γ E 5 _ 2 12 S 8 ([(0, .ref (E.2.1 8 0)), (1, .int p1), (2, .int p2), (3, .ref (E.2.1 10 0))]) ([.int r5_1, .int ((0 : Int32)), .ref (E.2.1 10 0)]) _
    refine cr_i2l X dL_turbine_8 ?_
    refine cr_lastS X dL_turbine_9 (fun S9_2 => ?_)
    refine cr_goto X 21 dL_turbine_10 rfl ?_
    refine cr_iconst X (0 : Int32) (by decide) dL_turbine_21 ?_
    exact cr_iretc X rfl rfl (by decide) dL_turbine_22
theorem k_L_undo_1 : (Cond.classLink RL 15 "java/lang/IllegalStateException") ∈ wsL_undo := List.mem_of_getElem? (i := 1) (by rfl)
abbrev rm_L_undo : Room := { frames := 7, cells := 2, slots := 12, locals := 103 }
set_option maxHeartbeats 4000000 in
set_option maxRecDepth 100000 in
theorem c_L_undo (l : Launch) (hl : l.stackTraces = false) (E : cr_E) (hEK : cr_EK E) (S : cr_S) : cr_Mc l E yL_undo wsL_undo rm_L_undo 2 12 [.ref (E.2.1 8 0), .ref (E.2.1 10 0)] S cr_vIS (s_L_undo S) := by
  refine cr_enterc (cc := cL_undo) (nL := 3) (rt := (some .int)) (hh := [(0, 8, 11, 15)]) hEK (by decide) rfl (Nat.le_of_ble_eq_true rfl) (fun Γ hΓ X NC htab => ?_)
  subst hΓ
  have Yl := hl
  have X : cr_X Γ E cL_undo 3 RL wsL_undo rm_L_undo (some .int) := X
  unfold s_L_undo
  show cr_P Γ E 3 _ 0 0 S 0 ([(0, .ref (E.2.1 8 0)), (1, .ref (E.2.1 10 0))]) [] _
  refine cr_aload_n X 1 rfl dL_undo_0 ?_
  refine cr_iconst X (0 : Int32) (by decide) dL_undo_1 ?_
  refine cr_aload_n X 0 rfl dL_undo_2 ?_
  refine cr_callC1 X htab "java/lang/IllegalStateException" (by decide +kernel) k_L_undo_1 (As := []) (rest := [.int ((0 : Int32)), .ref (E.2.1 10 0)]) 2 12 (c_X8_undo Γ.2.1 Yl E hEK S) ((cr_b0 E).at rfl rfl) rfl 0 gL_undo_X8_undo rfl rfl rfl (by decide +kernel) ⟨Nat.le_of_ble_eq_true rfl, Nat.le_of_ble_eq_true rfl⟩ (by decide) rfl rfl (Nat.le_of_ble_eq_true rfl) dL_undo_3 (by decide) (by decide) ?_ ?_
  · intro q
    refine cr_astore_n X ([(2, .ref q), (0, .ref (E.2.1 8 0)), (1, .ref (E.2.1 10 0))]) rfl (by decide) dL_undo_11 ?_
    refine cr_iconst X (1 : Int32) (by decide) dL_undo_12 ?_
    exact cr_iretc X rfl rfl (by decide) dL_undo_13
  · intro r3_1
    show cr_P Γ E 3 _ 2 12 r3_1.2 6 ([(0, .ref (E.2.1 8 0)), (1, .ref (E.2.1 10 0))]) ([.int r3_1.1, .int ((0 : Int32)), .ref (E.2.1 10 0)]) _
    refine cr_i2l X dL_undo_6 ?_
    refine cr_lastS X dL_undo_7 (fun S7_2 => ?_)
    refine cr_goto X 14 dL_undo_8 rfl ?_
    refine cr_iconst X (0 : Int32) (by decide) dL_undo_14 ?_
    exact cr_iretc X rfl rfl (by decide) dL_undo_15
theorem k_L_unplan_1 : (Cond.classLink RL 21 "java/lang/IndexOutOfBoundsException") ∈ wsL_unplan := List.mem_of_getElem? (i := 1) (by rfl)
theorem k_L_unplan_2 : (Cond.classLink RL 15 "java/lang/IllegalStateException") ∈ wsL_unplan := List.mem_of_getElem? (i := 2) (by rfl)
abbrev rm_L_unplan : Room := { frames := 8, cells := 2, slots := 12, locals := 125 }
set_option maxHeartbeats 4000000 in
set_option maxRecDepth 100000 in
theorem c_L_unplan (l : Launch) (hl : l.stackTraces = false) (E : cr_E) (hEK : cr_EK E) (S : cr_S) (p1 : Int32) : cr_Mc l E yL_unplan wsL_unplan rm_L_unplan 2 12 [.ref (E.2.1 8 0), .int p1, .ref (E.2.1 10 0)] S cr_vIS (s_L_unplan p1 S) := by
  refine cr_enterc (cc := cL_unplan) (nL := 4) (rt := (some .int)) (hh := [(0, 9, 12, 21), (0, 9, 15, 15)]) hEK (by decide) rfl (Nat.le_of_ble_eq_true rfl) (fun Γ hΓ X NC htab => ?_)
  subst hΓ
  have Yl := hl
  have X : cr_X Γ E cL_unplan 4 RL wsL_unplan rm_L_unplan (some .int) := X
  unfold s_L_unplan
  show cr_P Γ E 4 _ 0 0 S 0 ([(0, .ref (E.2.1 8 0)), (1, .int p1), (2, .ref (E.2.1 10 0))]) [] _
  refine cr_aload_n X 2 rfl dL_unplan_0 ?_
  refine cr_iconst X (0 : Int32) (by decide) dL_unplan_1 ?_
  refine cr_aload_n X 0 rfl dL_unplan_2 ?_
  refine cr_iload_n X 1 rfl dL_unplan_3 ?_
  refine cr_callC2 X NC htab "java/lang/IndexOutOfBoundsException" "java/lang/IllegalStateException" (by decide +kernel) (by decide +kernel) (by decide +kernel) k_L_unplan_1 k_L_unplan_2 (As := [.int p1]) (rest := [.int ((0 : Int32)), .ref (E.2.1 10 0)]) 2 12 (c_X8_unplan Γ.2.1 Yl E hEK S p1) ((cr_b0 E).at rfl rfl) rfl 1 gL_unplan_X8_unplan rfl rfl rfl (by decide +kernel) ⟨Nat.le_of_ble_eq_true rfl, Nat.le_of_ble_eq_true rfl⟩ (by decide) rfl rfl (Nat.le_of_ble_eq_true rfl) dL_unplan_4 (by decide) (by decide) (by decide) ?_ ?_ ?_
  · intro q
    refine cr_astore_n X ([(3, .ref q), (0, .ref (E.2.1 8 0)), (1, .int p1), (2, .ref (E.2.1 10 0))]) rfl (by decide) dL_unplan_12 ?_
    refine cr_iconst X (1 : Int32) (by decide) dL_unplan_13 ?_
    exact cr_iretc X rfl rfl (by decide) dL_unplan_14
  · intro q
    refine cr_astore_n X ([(3, .ref q), (0, .ref (E.2.1 8 0)), (1, .int p1), (2, .ref (E.2.1 10 0))]) rfl (by decide) dL_unplan_15 ?_
    refine cr_iconst X (2 : Int32) (by decide) dL_unplan_16 ?_
    exact cr_iretc X rfl rfl (by decide) dL_unplan_17
  · intro r4_1
    show cr_P Γ E 4 _ 2 12 r4_1.2 7 ([(0, .ref (E.2.1 8 0)), (1, .int p1), (2, .ref (E.2.1 10 0))]) ([.int r4_1.1, .int ((0 : Int32)), .ref (E.2.1 10 0)]) _
    refine cr_i2l X dL_unplan_7 ?_
    refine cr_lastS X dL_unplan_8 (fun S8_2 => ?_)
    refine cr_goto X 18 dL_unplan_9 rfl ?_
    refine cr_iconst X (0 : Int32) (by decide) dL_unplan_18 ?_
    exact cr_iretc X rfl rfl (by decide) dL_unplan_19
theorem k_L_way_1 : (Cond.classLink RL 13 "java/lang/IllegalArgumentException") ∈ wsL_way := List.mem_of_getElem? (i := 1) (by rfl)
abbrev rm_L_way : Room := { frames := 7, cells := 2, slots := 12, locals := 104 }
set_option maxHeartbeats 4000000 in
set_option maxRecDepth 100000 in
theorem c_L_way (l : Launch) (hl : l.stackTraces = false) (E : cr_E) (hEK : cr_EK E) (S : cr_S) (p1 : Int32) (p2 : Int32) : cr_Mc l E yL_way wsL_way rm_L_way 2 12 [.ref (E.2.1 8 0), .int p1, .int p2, .ref (E.2.1 10 0)] S cr_vIS (s_L_way p1 p2 S) := by
  refine cr_enterc (cc := cL_way) (nL := 5) (rt := (some .int)) (hh := [(0, 10, 13, 13)]) hEK (by decide) rfl (Nat.le_of_ble_eq_true rfl) (fun Γ hΓ X NC htab => ?_)
  subst hΓ
  have Yl := hl
  have X : cr_X Γ E cL_way 5 RL wsL_way rm_L_way (some .int) := X
  unfold s_L_way
  show cr_P Γ E 5 _ 0 0 S 0 ([(0, .ref (E.2.1 8 0)), (1, .int p1), (2, .int p2), (3, .ref (E.2.1 10 0))]) [] _
  refine cr_aload_n X 3 rfl dL_way_0 ?_
  refine cr_iconst X (0 : Int32) (by decide) dL_way_1 ?_
  refine cr_aload_n X 0 rfl dL_way_2 ?_
  refine cr_iload_n X 1 rfl dL_way_3 ?_
  refine cr_iload_n X 2 rfl dL_way_4 ?_
  refine cr_callC1 X htab "java/lang/IllegalArgumentException" (by decide +kernel) k_L_way_1 (As := [.int p1, .int p2]) (rest := [.int ((0 : Int32)), .ref (E.2.1 10 0)]) 2 12 (c_X8_way Γ.2.1 Yl E hEK S p1 p2) ((cr_b0 E).at rfl rfl) rfl 2 gL_way_X8_way rfl rfl rfl (by decide +kernel) ⟨Nat.le_of_ble_eq_true rfl, Nat.le_of_ble_eq_true rfl⟩ (by decide) rfl rfl (Nat.le_of_ble_eq_true rfl) dL_way_5 (by decide) (by decide) ?_ ?_
  · intro q
    refine cr_astore X ([(4, .ref q), (0, .ref (E.2.1 8 0)), (1, .int p1), (2, .int p2), (3, .ref (E.2.1 10 0))]) rfl (by decide) dL_way_13 ?_
    refine cr_iconst X (1 : Int32) (by decide) dL_way_15 ?_
    exact cr_iretc X rfl rfl (by decide) dL_way_16
  · intro r5_1
    show cr_P Γ E 5 _ 2 12 S 8 ([(0, .ref (E.2.1 8 0)), (1, .int p1), (2, .int p2), (3, .ref (E.2.1 10 0))]) ([.int r5_1, .int ((0 : Int32)), .ref (E.2.1 10 0)]) _
    refine cr_i2l X dL_way_8 ?_
    refine cr_lastS X dL_way_9 (fun S9_2 => ?_)
    refine cr_goto X 17 dL_way_10 rfl ?_
    refine cr_iconst X (0 : Int32) (by decide) dL_way_17 ?_
    exact cr_iretc X rfl rfl (by decide) dL_way_18
theorem k_L_window_1 : (Cond.classLink RL 21 "java/lang/IndexOutOfBoundsException") ∈ wsL_window := List.mem_of_getElem? (i := 1) (by rfl)
theorem k_L_window_2 : (Cond.classLink RL 13 "java/lang/IllegalArgumentException") ∈ wsL_window := List.mem_of_getElem? (i := 2) (by rfl)
abbrev rm_L_window : Room := { frames := 8, cells := 2, slots := 12, locals := 125 }
set_option maxHeartbeats 4000000 in
set_option maxRecDepth 100000 in
theorem c_L_window (l : Launch) (hl : l.stackTraces = false) (E : cr_E) (hEK : cr_EK E) (S : cr_S) (p1 : Int32) (p2 : Int32) : cr_Mc l E yL_window wsL_window rm_L_window 2 12 [.ref (E.2.1 8 0), .int p1, .int p2, .ref (E.2.1 10 0)] S cr_vIS (s_L_window p1 p2 S) := by
  refine cr_enterc (cc := cL_window) (nL := 5) (rt := (some .int)) (hh := [(0, 10, 13, 21), (0, 10, 17, 13)]) hEK (by decide) rfl (Nat.le_of_ble_eq_true rfl) (fun Γ hΓ X NC htab => ?_)
  subst hΓ
  have Yl := hl
  have X : cr_X Γ E cL_window 5 RL wsL_window rm_L_window (some .int) := X
  unfold s_L_window
  show cr_P Γ E 5 _ 0 0 S 0 ([(0, .ref (E.2.1 8 0)), (1, .int p1), (2, .int p2), (3, .ref (E.2.1 10 0))]) [] _
  refine cr_aload_n X 3 rfl dL_window_0 ?_
  refine cr_iconst X (0 : Int32) (by decide) dL_window_1 ?_
  refine cr_aload_n X 0 rfl dL_window_2 ?_
  refine cr_iload_n X 1 rfl dL_window_3 ?_
  refine cr_iload_n X 2 rfl dL_window_4 ?_
  refine cr_callC2 X NC htab "java/lang/IndexOutOfBoundsException" "java/lang/IllegalArgumentException" (by decide +kernel) (by decide +kernel) (by decide +kernel) k_L_window_1 k_L_window_2 (As := [.int p1, .int p2]) (rest := [.int ((0 : Int32)), .ref (E.2.1 10 0)]) 2 12 (c_X8_window Γ.2.1 Yl E hEK S p1 p2) ((cr_b0 E).at rfl rfl) rfl 2 gL_window_X8_window rfl rfl rfl (by decide +kernel) ⟨Nat.le_of_ble_eq_true rfl, Nat.le_of_ble_eq_true rfl⟩ (by decide) rfl rfl (Nat.le_of_ble_eq_true rfl) dL_window_5 (by decide) (by decide) (by decide) ?_ ?_ ?_
  · intro q
    refine cr_astore X ([(4, .ref q), (0, .ref (E.2.1 8 0)), (1, .int p1), (2, .int p2), (3, .ref (E.2.1 10 0))]) rfl (by decide) dL_window_13 ?_
    refine cr_iconst X (1 : Int32) (by decide) dL_window_15 ?_
    exact cr_iretc X rfl rfl (by decide) dL_window_16
  · intro q
    refine cr_astore X ([(4, .ref q), (0, .ref (E.2.1 8 0)), (1, .int p1), (2, .int p2), (3, .ref (E.2.1 10 0))]) rfl (by decide) dL_window_17 ?_
    refine cr_iconst X (2 : Int32) (by decide) dL_window_19 ?_
    exact cr_iretc X rfl rfl (by decide) dL_window_20
  · intro r5_1
    show cr_P Γ E 5 _ 2 12 S 8 ([(0, .ref (E.2.1 8 0)), (1, .int p1), (2, .int p2), (3, .ref (E.2.1 10 0))]) ([.int r5_1, .int ((0 : Int32)), .ref (E.2.1 10 0)]) _
    refine cr_i2l X dL_window_8 ?_
    refine cr_lastS X dL_window_9 (fun S9_2 => ?_)
    refine cr_goto X 21 dL_window_10 rfl ?_
    refine cr_iconst X (0 : Int32) (by decide) dL_window_21 ?_
    exact cr_iretc X rfl rfl (by decide) dL_window_22

set_option maxHeartbeats 4000000 in
set_option maxRecDepth 100000 in
theorem b_L_law_160 {Γ : cr_C} {E : cr_E} (X : cr_X Γ E cL_law 9 RL wsL_law room_1 (some .boolean)) (Yl : Γ.2.1.stackTraces = false) (NC : cr_NC Γ.2.2.2.2.1) {b L : Nat} {xs : Nat → Int32} (SC : va_X b L xs Γ.2.2.2.2.1 Γ.2.2.2.2.1.heap ∧ b < Γ.2.2.2.2.1.heap.size ∧ ¬ E.2.2.1 b) {Φ : Unit → (State → Prop) → Prop} (j : Nat) (hj : j ≤ 511) (x4 : Int32) (k23 : Int32 → cr_S → Option Unit) (hk23 : ∀ S9, cr_P Γ E 9 Φ (2 * j + 300 + 2) (12 * j + 20000 + 12) S9 23 [(0, .ref b), (1, .ref (E.2.1 8 0)), (2, .ref (E.2.1 9 0)), (3, .ref (E.2.1 10 0)), (4, .int (x4 + 4))] [] (k23 (x4 + 4) S9)) (S : cr_S) : cr_P Γ E 9 Φ (2 * j + 300) (12 * j + 20000) S 160 ([(0, .ref b), (1, .ref (E.2.1 8 0)), (2, .ref (E.2.1 9 0)), (3, .ref (E.2.1 10 0)), (4, .int x4)]) [] (s_L_law_160 xs L k23 x4 S) := by
  have hEK := X.2.2.2.2.2.2.1
  unfold s_L_law_160
  refine cr_aload_n X 1 rfl dL_law_160 ?_
  refine cr_aload_n X 0 rfl dL_law_161 ?_
  refine cr_iload X 4 rfl dL_law_162 ?_
  refine cr_iconst X (1 : Int32) (by decide) dL_law_164 ?_
  refine cr_iadd X dL_law_165 ?_
  refine cr_sald X SC dL_law_166 ?_
  refine cr_aload_n X 0 rfl dL_law_167 ?_
  refine cr_iload X 4 rfl dL_law_168 ?_
  refine cr_iconst X (2 : Int32) (by decide) dL_law_170 ?_
  refine cr_iadd X dL_law_171 ?_
  refine cr_sald X SC dL_law_172 ?_
  refine cr_aload_n X 0 rfl dL_law_173 ?_
  refine cr_iload X 4 rfl dL_law_174 ?_
  refine cr_iconst X (3 : Int32) (by decide) dL_law_176 ?_
  refine cr_iadd X dL_law_177 ?_
  refine cr_sald X SC dL_law_178 ?_
  refine cr_aload_n X 3 rfl dL_law_179 ?_
  refine cr_callSc X NC (As := [.ref (E.2.1 8 0), .int ((xs ((x4 + (1 : Int32))).toNatClampNeg)), .int ((xs ((x4 + (2 : Int32))).toNatClampNeg)), .int ((xs ((x4 + (3 : Int32))).toNatClampNeg)), .ref (E.2.1 10 0)]) (rest := []) 2 12 (c_L_addTurbine Γ.2.1 Yl E hEK S ((xs ((x4 + (1 : Int32))).toNatClampNeg)) ((xs ((x4 + (2 : Int32))).toNatClampNeg)) ((xs ((x4 + (3 : Int32))).toNatClampNeg))) 5 gL_law_L_addTurbine rfl rfl rfl (by decide +kernel) ⟨Nat.le_of_ble_eq_true rfl, Nat.le_of_ble_eq_true rfl⟩ ⟨show 2 * j + 300 + 2 ≤ 601024 by omega, show 12 * j + 20000 + 12 ≤ 7293034 by omega⟩ rfl rfl (Nat.le_of_ble_eq_true rfl) dL_law_180 (fun r180_1 => ?_)
  show cr_P Γ E 9 _ (2 * j + 300 + 2) (12 * j + 20000 + 12) r180_1.2 183 ([(0, .ref b), (1, .ref (E.2.1 8 0)), (2, .ref (E.2.1 9 0)), (3, .ref (E.2.1 10 0)), (4, .int x4)]) ([.int r180_1.1]) _
  refine cr_istore X ([(5, .int r180_1.1), (0, .ref b), (1, .ref (E.2.1 8 0)), (2, .ref (E.2.1 9 0)), (3, .ref (E.2.1 10 0)), (4, .int x4)]) rfl (by decide) dL_law_183 ?_
  refine cr_aload_n X 3 rfl dL_law_185 ?_
  refine cr_aload_n X 1 rfl dL_law_186 ?_
  refine cr_iload X 5 rfl dL_law_187 ?_
  refine cr_iconst X (1 : Int32) (by decide) dL_law_189 ?_
  refine cr_iadd X dL_law_190 ?_
  refine cr_sald X SC dL_law_191 ?_
  refine cr_aload_n X 1 rfl dL_law_192 ?_
  refine cr_iload X 5 rfl dL_law_193 ?_
  refine cr_iconst X (2 : Int32) (by decide) dL_law_195 ?_
  refine cr_iadd X dL_law_196 ?_
  refine cr_sald X SC dL_law_197 ?_
  refine cr_aload_n X 1 rfl dL_law_198 ?_
  refine cr_iload X 5 rfl dL_law_199 ?_
  refine cr_iconst X (3 : Int32) (by decide) dL_law_201 ?_
  refine cr_iadd X dL_law_202 ?_
  refine cr_sald X SC dL_law_203 ?_
  refine cr_callV X (As := [.int ((xs ((x4 + (1 : Int32))).toNatClampNeg)), .int ((xs ((x4 + (2 : Int32))).toNatClampNeg)), .int ((xs ((x4 + (3 : Int32))).toNatClampNeg))]) (rest := []) (c_X9_addTurbine_S Γ.2.1 E hEK r180_1.2 ((xs ((x4 + (1 : Int32))).toNatClampNeg)) ((xs ((x4 + (2 : Int32))).toNatClampNeg)) ((xs ((x4 + (3 : Int32))).toNatClampNeg))) ((cr_m0 E).at rfl rfl) rfl 3 gL_law_X9_addTurbine rfl rfl rfl (by decide +kernel) ⟨Nat.le_of_ble_eq_true rfl, Nat.le_of_ble_eq_true rfl⟩ ⟨show 2 * j + 300 + 2 ≤ 601024 by omega, show 12 * j + 20000 + 12 ≤ 7293034 by omega⟩ rfl rfl (Nat.le_of_ble_eq_true rfl) dL_law_204 (fun r204_2 => ?_)
  show cr_P Γ E 9 _ (2 * j + 300 + 2) (12 * j + 20000 + 12) (cr_us r180_1.2 9 r204_2.2) 207 ([(5, .int r180_1.1), (0, .ref b), (1, .ref (E.2.1 8 0)), (2, .ref (E.2.1 9 0)), (3, .ref (E.2.1 10 0)), (4, .int x4)]) ([.int r204_2.1]) _
  refine cr_bds (fun S204_3 => ?_)
  refine cr_istore X ([(6, .int r204_2.1), (5, .int r180_1.1), (0, .ref b), (1, .ref (E.2.1 8 0)), (2, .ref (E.2.1 9 0)), (3, .ref (E.2.1 10 0)), (4, .int x4)]) rfl (by decide) dL_law_207 ?_
  refine cr_aload_n X 4 rfl dL_law_209 ?_
  refine cr_callV X (As := []) (rest := []) (c_X9_thrown_S Γ.2.1 E hEK S204_3) ((cr_m0 E).at rfl rfl) rfl 0 gL_law_X9_thrown rfl rfl rfl (by decide +kernel) ⟨Nat.le_of_ble_eq_true rfl, Nat.le_of_ble_eq_true rfl⟩ ⟨show 2 * j + 300 + 2 ≤ 601024 by omega, show 12 * j + 20000 + 12 ≤ 7293034 by omega⟩ rfl rfl (Nat.le_of_ble_eq_true rfl) dL_law_210 (fun r210_4 => ?_)
  show cr_P Γ E 9 _ (2 * j + 300 + 2) (12 * j + 20000 + 12) S204_3 213 ([(6, .int r204_2.1), (5, .int r180_1.1), (0, .ref b), (1, .ref (E.2.1 8 0)), (2, .ref (E.2.1 9 0)), (3, .ref (E.2.1 10 0)), (4, .int x4)]) ([.int r210_4]) _
  refine cr_iload X 1 rfl dL_law_213 ?_
  refine cr_icmp_eq X 220 dL_law_215 rfl ?_ ?_
  · refine cr_iload X 1 rfl dL_law_220 ?_
    refine cr_if_ne X 237 dL_law_222 rfl ?_ ?_
    · refine cr_goto X 1550 dL_law_237 rfl ?_
      refine cr_iinc0 X (x4 + 4) ([(4, .int ((x4 + 4))), (6, .int r204_2.1), (5, .int r180_1.1), (0, .ref b), (1, .ref (E.2.1 8 0)), (2, .ref (E.2.1 9 0)), (3, .ref (E.2.1 10 0))]) 6 rfl rfl rfl (by decide) dL_law_1550 ?_
      refine cr_goto X 23 dL_law_1553 rfl ?_
      refine cr_widen (2 * j + 300 + 2) (12 * j + 20000 + 12) (by omega) (by omega) ?_
      refine cr_sub (lv' := [(0, .ref b), (1, .ref (E.2.1 8 0)), (2, .ref (E.2.1 9 0)), (3, .ref (E.2.1 10 0)), (4, .int ((x4 + 4)))]) [3, 4, 5, 6, 0] rfl ?_
      exact hk23 S204_3
    · refine cr_aload_n X 5 rfl dL_law_225 ?_
      refine cr_iconst X (0 : Int32) (by decide) dL_law_226 ?_
      refine cr_lald X ((cr_o0 E).at rfl rfl) dL_law_227 ?_
      refine cr_iload X 0 rfl dL_law_228 ?_
      refine cr_i2l X dL_law_230 ?_
      refine cr_lcmp X dL_law_231 ?_
      refine cr_if_eq X 237 dL_law_232 rfl ?_ ?_
      · refine cr_goto X 1550 dL_law_237 rfl ?_
        refine cr_iinc0 X (x4 + 4) ([(4, .int ((x4 + 4))), (6, .int r204_2.1), (5, .int r180_1.1), (0, .ref b), (1, .ref (E.2.1 8 0)), (2, .ref (E.2.1 9 0)), (3, .ref (E.2.1 10 0))]) 6 rfl rfl rfl (by decide) dL_law_1550 ?_
        refine cr_goto X 23 dL_law_1553 rfl ?_
        refine cr_widen (2 * j + 300 + 2) (12 * j + 20000 + 12) (by omega) (by omega) ?_
        refine cr_sub (lv' := [(0, .ref b), (1, .ref (E.2.1 8 0)), (2, .ref (E.2.1 9 0)), (3, .ref (E.2.1 10 0)), (4, .int ((x4 + 4)))]) [3, 4, 5, 6, 0] rfl ?_
        exact hk23 S204_3
      · refine cr_iconst X (0 : Int32) (by decide) dL_law_235 ?_
        exact cr_none
  · refine cr_iconst X (0 : Int32) (by decide) dL_law_218 ?_
    exact cr_none
set_option maxHeartbeats 4000000 in
set_option maxRecDepth 100000 in
theorem b_L_law_240 {Γ : cr_C} {E : cr_E} (X : cr_X Γ E cL_law 9 RL wsL_law room_1 (some .boolean)) (Yl : Γ.2.1.stackTraces = false) (NC : cr_NC Γ.2.2.2.2.1) {b L : Nat} {xs : Nat → Int32} (SC : va_X b L xs Γ.2.2.2.2.1 Γ.2.2.2.2.1.heap ∧ b < Γ.2.2.2.2.1.heap.size ∧ ¬ E.2.2.1 b) {Φ : Unit → (State → Prop) → Prop} (j : Nat) (hj : j ≤ 511) (x4 : Int32) (k23 : Int32 → cr_S → Option Unit) (hk23 : ∀ S9, cr_P Γ E 9 Φ (2 * j + 300 + 2) (12 * j + 20000 + 12) S9 23 [(0, .ref b), (1, .ref (E.2.1 8 0)), (2, .ref (E.2.1 9 0)), (3, .ref (E.2.1 10 0)), (4, .int (x4 + 4))] [] (k23 (x4 + 4) S9)) (S : cr_S) : cr_P Γ E 9 Φ (2 * j + 300) (12 * j + 20000) S 240 ([(0, .ref b), (1, .ref (E.2.1 8 0)), (2, .ref (E.2.1 9 0)), (3, .ref (E.2.1 10 0)), (4, .int x4)]) [] (s_L_law_240 xs L k23 x4 S) := by
  have hEK := X.2.2.2.2.2.2.1
  unfold s_L_law_240
  refine cr_aload_n X 1 rfl dL_law_240 ?_
  refine cr_aload_n X 0 rfl dL_law_241 ?_
  refine cr_iload X 4 rfl dL_law_242 ?_
  refine cr_iconst X (1 : Int32) (by decide) dL_law_244 ?_
  refine cr_iadd X dL_law_245 ?_
  refine cr_sald X SC dL_law_246 ?_
  refine cr_aload_n X 0 rfl dL_law_247 ?_
  refine cr_iload X 4 rfl dL_law_248 ?_
  refine cr_iconst X (2 : Int32) (by decide) dL_law_250 ?_
  refine cr_iadd X dL_law_251 ?_
  refine cr_sald X SC dL_law_252 ?_
  refine cr_aload_n X 3 rfl dL_law_253 ?_
  refine cr_callSc X NC (As := [.ref (E.2.1 8 0), .int ((xs ((x4 + (1 : Int32))).toNatClampNeg)), .int ((xs ((x4 + (2 : Int32))).toNatClampNeg)), .ref (E.2.1 10 0)]) (rest := []) 2 12 (c_L_setFault Γ.2.1 Yl E hEK S ((xs ((x4 + (1 : Int32))).toNatClampNeg)) ((xs ((x4 + (2 : Int32))).toNatClampNeg))) 4 gL_law_L_setFault rfl rfl rfl (by decide +kernel) ⟨Nat.le_of_ble_eq_true rfl, Nat.le_of_ble_eq_true rfl⟩ ⟨show 2 * j + 300 + 2 ≤ 601024 by omega, show 12 * j + 20000 + 12 ≤ 7293034 by omega⟩ rfl rfl (Nat.le_of_ble_eq_true rfl) dL_law_254 (fun r254_7 => ?_)
  show cr_P Γ E 9 _ (2 * j + 300 + 2) (12 * j + 20000 + 12) r254_7.2 257 ([(0, .ref b), (1, .ref (E.2.1 8 0)), (2, .ref (E.2.1 9 0)), (3, .ref (E.2.1 10 0)), (4, .int x4)]) ([.int r254_7.1]) _
  refine cr_istore X ([(5, .int r254_7.1), (0, .ref b), (1, .ref (E.2.1 8 0)), (2, .ref (E.2.1 9 0)), (3, .ref (E.2.1 10 0)), (4, .int x4)]) rfl (by decide) dL_law_257 ?_
  refine cr_aload_n X 3 rfl dL_law_259 ?_
  refine cr_aload_n X 1 rfl dL_law_260 ?_
  refine cr_iload X 5 rfl dL_law_261 ?_
  refine cr_iconst X (1 : Int32) (by decide) dL_law_263 ?_
  refine cr_iadd X dL_law_264 ?_
  refine cr_sald X SC dL_law_265 ?_
  refine cr_aload_n X 1 rfl dL_law_266 ?_
  refine cr_iload X 5 rfl dL_law_267 ?_
  refine cr_iconst X (2 : Int32) (by decide) dL_law_269 ?_
  refine cr_iadd X dL_law_270 ?_
  refine cr_sald X SC dL_law_271 ?_
  refine cr_callV X (As := [.int ((xs ((x4 + (1 : Int32))).toNatClampNeg)), .int ((xs ((x4 + (2 : Int32))).toNatClampNeg))]) (rest := []) (c_X9_setFault_S Γ.2.1 E hEK r254_7.2 ((xs ((x4 + (1 : Int32))).toNatClampNeg)) ((xs ((x4 + (2 : Int32))).toNatClampNeg))) ((cr_m0 E).at rfl rfl) rfl 2 gL_law_X9_setFault rfl rfl rfl (by decide +kernel) ⟨Nat.le_of_ble_eq_true rfl, Nat.le_of_ble_eq_true rfl⟩ ⟨show 2 * j + 300 + 2 ≤ 601024 by omega, show 12 * j + 20000 + 12 ≤ 7293034 by omega⟩ rfl rfl (Nat.le_of_ble_eq_true rfl) dL_law_272 (fun r272_8 => ?_)
  show cr_P Γ E 9 _ (2 * j + 300 + 2) (12 * j + 20000 + 12) (cr_us r254_7.2 9 r272_8.2) 275 ([(5, .int r254_7.1), (0, .ref b), (1, .ref (E.2.1 8 0)), (2, .ref (E.2.1 9 0)), (3, .ref (E.2.1 10 0)), (4, .int x4)]) ([.int r272_8.1]) _
  refine cr_bds (fun S272_9 => ?_)
  refine cr_istore X ([(6, .int r272_8.1), (5, .int r254_7.1), (0, .ref b), (1, .ref (E.2.1 8 0)), (2, .ref (E.2.1 9 0)), (3, .ref (E.2.1 10 0)), (4, .int x4)]) rfl (by decide) dL_law_275 ?_
  refine cr_aload_n X 4 rfl dL_law_277 ?_
  refine cr_callV X (As := []) (rest := []) (c_X9_thrown_S Γ.2.1 E hEK S272_9) ((cr_m0 E).at rfl rfl) rfl 0 gL_law_X9_thrown rfl rfl rfl (by decide +kernel) ⟨Nat.le_of_ble_eq_true rfl, Nat.le_of_ble_eq_true rfl⟩ ⟨show 2 * j + 300 + 2 ≤ 601024 by omega, show 12 * j + 20000 + 12 ≤ 7293034 by omega⟩ rfl rfl (Nat.le_of_ble_eq_true rfl) dL_law_278 (fun r278_10 => ?_)
  show cr_P Γ E 9 _ (2 * j + 300 + 2) (12 * j + 20000 + 12) S272_9 281 ([(6, .int r272_8.1), (5, .int r254_7.1), (0, .ref b), (1, .ref (E.2.1 8 0)), (2, .ref (E.2.1 9 0)), (3, .ref (E.2.1 10 0)), (4, .int x4)]) ([.int r278_10]) _
  refine cr_iload X 1 rfl dL_law_281 ?_
  refine cr_icmp_eq X 288 dL_law_283 rfl ?_ ?_
  · refine cr_iload X 1 rfl dL_law_288 ?_
    refine cr_if_ne X 305 dL_law_290 rfl ?_ ?_
    · refine cr_goto X 1550 dL_law_305 rfl ?_
      refine cr_iinc0 X (x4 + 4) ([(4, .int ((x4 + 4))), (6, .int r272_8.1), (5, .int r254_7.1), (0, .ref b), (1, .ref (E.2.1 8 0)), (2, .ref (E.2.1 9 0)), (3, .ref (E.2.1 10 0))]) 6 rfl rfl rfl (by decide) dL_law_1550 ?_
      refine cr_goto X 23 dL_law_1553 rfl ?_
      refine cr_widen (2 * j + 300 + 2) (12 * j + 20000 + 12) (by omega) (by omega) ?_
      refine cr_sub (lv' := [(0, .ref b), (1, .ref (E.2.1 8 0)), (2, .ref (E.2.1 9 0)), (3, .ref (E.2.1 10 0)), (4, .int ((x4 + 4)))]) [3, 4, 5, 6, 0] rfl ?_
      exact hk23 S272_9
    · refine cr_aload_n X 5 rfl dL_law_293 ?_
      refine cr_iconst X (0 : Int32) (by decide) dL_law_294 ?_
      refine cr_lald X ((cr_o0 E).at rfl rfl) dL_law_295 ?_
      refine cr_iload X 0 rfl dL_law_296 ?_
      refine cr_i2l X dL_law_298 ?_
      refine cr_lcmp X dL_law_299 ?_
      refine cr_if_eq X 305 dL_law_300 rfl ?_ ?_
      · refine cr_goto X 1550 dL_law_305 rfl ?_
        refine cr_iinc0 X (x4 + 4) ([(4, .int ((x4 + 4))), (6, .int r272_8.1), (5, .int r254_7.1), (0, .ref b), (1, .ref (E.2.1 8 0)), (2, .ref (E.2.1 9 0)), (3, .ref (E.2.1 10 0))]) 6 rfl rfl rfl (by decide) dL_law_1550 ?_
        refine cr_goto X 23 dL_law_1553 rfl ?_
        refine cr_widen (2 * j + 300 + 2) (12 * j + 20000 + 12) (by omega) (by omega) ?_
        refine cr_sub (lv' := [(0, .ref b), (1, .ref (E.2.1 8 0)), (2, .ref (E.2.1 9 0)), (3, .ref (E.2.1 10 0)), (4, .int ((x4 + 4)))]) [3, 4, 5, 6, 0] rfl ?_
        exact hk23 S272_9
      · refine cr_iconst X (0 : Int32) (by decide) dL_law_303 ?_
        exact cr_none
  · refine cr_iconst X (0 : Int32) (by decide) dL_law_286 ?_
    exact cr_none
set_option maxHeartbeats 4000000 in
set_option maxRecDepth 100000 in
theorem b_L_law_308 {Γ : cr_C} {E : cr_E} (X : cr_X Γ E cL_law 9 RL wsL_law room_1 (some .boolean)) (Yl : Γ.2.1.stackTraces = false) (NC : cr_NC Γ.2.2.2.2.1) {b L : Nat} {xs : Nat → Int32} (SC : va_X b L xs Γ.2.2.2.2.1 Γ.2.2.2.2.1.heap ∧ b < Γ.2.2.2.2.1.heap.size ∧ ¬ E.2.2.1 b) {Φ : Unit → (State → Prop) → Prop} (j : Nat) (hj : j ≤ 511) (x4 : Int32) (k23 : Int32 → cr_S → Option Unit) (hk23 : ∀ S9, cr_P Γ E 9 Φ (2 * j + 300 + 2) (12 * j + 20000 + 12) S9 23 [(0, .ref b), (1, .ref (E.2.1 8 0)), (2, .ref (E.2.1 9 0)), (3, .ref (E.2.1 10 0)), (4, .int (x4 + 4))] [] (k23 (x4 + 4) S9)) (S : cr_S) : cr_P Γ E 9 Φ (2 * j + 300) (12 * j + 20000) S 308 ([(0, .ref b), (1, .ref (E.2.1 8 0)), (2, .ref (E.2.1 9 0)), (3, .ref (E.2.1 10 0)), (4, .int x4)]) [] (s_L_law_308 xs L k23 x4 S) := by
  have hEK := X.2.2.2.2.2.2.1
  unfold s_L_law_308
  refine cr_aload_n X 1 rfl dL_law_308 ?_
  refine cr_aload_n X 0 rfl dL_law_309 ?_
  refine cr_iload X 4 rfl dL_law_310 ?_
  refine cr_iconst X (1 : Int32) (by decide) dL_law_312 ?_
  refine cr_iadd X dL_law_313 ?_
  refine cr_sald X SC dL_law_314 ?_
  refine cr_aload_n X 0 rfl dL_law_315 ?_
  refine cr_iload X 4 rfl dL_law_316 ?_
  refine cr_iconst X (2 : Int32) (by decide) dL_law_318 ?_
  refine cr_iadd X dL_law_319 ?_
  refine cr_sald X SC dL_law_320 ?_
  refine cr_aload_n X 3 rfl dL_law_321 ?_
  refine cr_callSc X NC (As := [.ref (E.2.1 8 0), .int ((xs ((x4 + (1 : Int32))).toNatClampNeg)), .int ((xs ((x4 + (2 : Int32))).toNatClampNeg)), .ref (E.2.1 10 0)]) (rest := []) 2 12 (c_L_setBog Γ.2.1 Yl E hEK S ((xs ((x4 + (1 : Int32))).toNatClampNeg)) ((xs ((x4 + (2 : Int32))).toNatClampNeg))) 4 gL_law_L_setBog rfl rfl rfl (by decide +kernel) ⟨Nat.le_of_ble_eq_true rfl, Nat.le_of_ble_eq_true rfl⟩ ⟨show 2 * j + 300 + 2 ≤ 601024 by omega, show 12 * j + 20000 + 12 ≤ 7293034 by omega⟩ rfl rfl (Nat.le_of_ble_eq_true rfl) dL_law_322 (fun r322_13 => ?_)
  show cr_P Γ E 9 _ (2 * j + 300 + 2) (12 * j + 20000 + 12) r322_13.2 325 ([(0, .ref b), (1, .ref (E.2.1 8 0)), (2, .ref (E.2.1 9 0)), (3, .ref (E.2.1 10 0)), (4, .int x4)]) ([.int r322_13.1]) _
  refine cr_istore X ([(5, .int r322_13.1), (0, .ref b), (1, .ref (E.2.1 8 0)), (2, .ref (E.2.1 9 0)), (3, .ref (E.2.1 10 0)), (4, .int x4)]) rfl (by decide) dL_law_325 ?_
  refine cr_aload_n X 3 rfl dL_law_327 ?_
  refine cr_aload_n X 1 rfl dL_law_328 ?_
  refine cr_iload X 5 rfl dL_law_329 ?_
  refine cr_iconst X (1 : Int32) (by decide) dL_law_331 ?_
  refine cr_iadd X dL_law_332 ?_
  refine cr_sald X SC dL_law_333 ?_
  refine cr_aload_n X 1 rfl dL_law_334 ?_
  refine cr_iload X 5 rfl dL_law_335 ?_
  refine cr_iconst X (2 : Int32) (by decide) dL_law_337 ?_
  refine cr_iadd X dL_law_338 ?_
  refine cr_sald X SC dL_law_339 ?_
  refine cr_callV X (As := [.int ((xs ((x4 + (1 : Int32))).toNatClampNeg)), .int ((xs ((x4 + (2 : Int32))).toNatClampNeg))]) (rest := []) (c_X9_setBog_S Γ.2.1 E hEK r322_13.2 ((xs ((x4 + (1 : Int32))).toNatClampNeg)) ((xs ((x4 + (2 : Int32))).toNatClampNeg))) ((cr_m0 E).at rfl rfl) rfl 2 gL_law_X9_setBog rfl rfl rfl (by decide +kernel) ⟨Nat.le_of_ble_eq_true rfl, Nat.le_of_ble_eq_true rfl⟩ ⟨show 2 * j + 300 + 2 ≤ 601024 by omega, show 12 * j + 20000 + 12 ≤ 7293034 by omega⟩ rfl rfl (Nat.le_of_ble_eq_true rfl) dL_law_340 (fun r340_14 => ?_)
  show cr_P Γ E 9 _ (2 * j + 300 + 2) (12 * j + 20000 + 12) (cr_us r322_13.2 9 r340_14.2) 343 ([(5, .int r322_13.1), (0, .ref b), (1, .ref (E.2.1 8 0)), (2, .ref (E.2.1 9 0)), (3, .ref (E.2.1 10 0)), (4, .int x4)]) ([.int r340_14.1]) _
  refine cr_bds (fun S340_15 => ?_)
  refine cr_istore X ([(6, .int r340_14.1), (5, .int r322_13.1), (0, .ref b), (1, .ref (E.2.1 8 0)), (2, .ref (E.2.1 9 0)), (3, .ref (E.2.1 10 0)), (4, .int x4)]) rfl (by decide) dL_law_343 ?_
  refine cr_aload_n X 4 rfl dL_law_345 ?_
  refine cr_callV X (As := []) (rest := []) (c_X9_thrown_S Γ.2.1 E hEK S340_15) ((cr_m0 E).at rfl rfl) rfl 0 gL_law_X9_thrown rfl rfl rfl (by decide +kernel) ⟨Nat.le_of_ble_eq_true rfl, Nat.le_of_ble_eq_true rfl⟩ ⟨show 2 * j + 300 + 2 ≤ 601024 by omega, show 12 * j + 20000 + 12 ≤ 7293034 by omega⟩ rfl rfl (Nat.le_of_ble_eq_true rfl) dL_law_346 (fun r346_16 => ?_)
  show cr_P Γ E 9 _ (2 * j + 300 + 2) (12 * j + 20000 + 12) S340_15 349 ([(6, .int r340_14.1), (5, .int r322_13.1), (0, .ref b), (1, .ref (E.2.1 8 0)), (2, .ref (E.2.1 9 0)), (3, .ref (E.2.1 10 0)), (4, .int x4)]) ([.int r346_16]) _
  refine cr_iload X 1 rfl dL_law_349 ?_
  refine cr_icmp_eq X 356 dL_law_351 rfl ?_ ?_
  · refine cr_iload X 1 rfl dL_law_356 ?_
    refine cr_if_ne X 373 dL_law_358 rfl ?_ ?_
    · refine cr_goto X 1550 dL_law_373 rfl ?_
      refine cr_iinc0 X (x4 + 4) ([(4, .int ((x4 + 4))), (6, .int r340_14.1), (5, .int r322_13.1), (0, .ref b), (1, .ref (E.2.1 8 0)), (2, .ref (E.2.1 9 0)), (3, .ref (E.2.1 10 0))]) 6 rfl rfl rfl (by decide) dL_law_1550 ?_
      refine cr_goto X 23 dL_law_1553 rfl ?_
      refine cr_widen (2 * j + 300 + 2) (12 * j + 20000 + 12) (by omega) (by omega) ?_
      refine cr_sub (lv' := [(0, .ref b), (1, .ref (E.2.1 8 0)), (2, .ref (E.2.1 9 0)), (3, .ref (E.2.1 10 0)), (4, .int ((x4 + 4)))]) [3, 4, 5, 6, 0] rfl ?_
      exact hk23 S340_15
    · refine cr_aload_n X 5 rfl dL_law_361 ?_
      refine cr_iconst X (0 : Int32) (by decide) dL_law_362 ?_
      refine cr_lald X ((cr_o0 E).at rfl rfl) dL_law_363 ?_
      refine cr_iload X 0 rfl dL_law_364 ?_
      refine cr_i2l X dL_law_366 ?_
      refine cr_lcmp X dL_law_367 ?_
      refine cr_if_eq X 373 dL_law_368 rfl ?_ ?_
      · refine cr_goto X 1550 dL_law_373 rfl ?_
        refine cr_iinc0 X (x4 + 4) ([(4, .int ((x4 + 4))), (6, .int r340_14.1), (5, .int r322_13.1), (0, .ref b), (1, .ref (E.2.1 8 0)), (2, .ref (E.2.1 9 0)), (3, .ref (E.2.1 10 0))]) 6 rfl rfl rfl (by decide) dL_law_1550 ?_
        refine cr_goto X 23 dL_law_1553 rfl ?_
        refine cr_widen (2 * j + 300 + 2) (12 * j + 20000 + 12) (by omega) (by omega) ?_
        refine cr_sub (lv' := [(0, .ref b), (1, .ref (E.2.1 8 0)), (2, .ref (E.2.1 9 0)), (3, .ref (E.2.1 10 0)), (4, .int ((x4 + 4)))]) [3, 4, 5, 6, 0] rfl ?_
        exact hk23 S340_15
      · refine cr_iconst X (0 : Int32) (by decide) dL_law_371 ?_
        exact cr_none
  · refine cr_iconst X (0 : Int32) (by decide) dL_law_354 ?_
    exact cr_none
set_option maxHeartbeats 4000000 in
set_option maxRecDepth 100000 in
theorem b_L_law_376 {Γ : cr_C} {E : cr_E} (X : cr_X Γ E cL_law 9 RL wsL_law room_1 (some .boolean)) (Yl : Γ.2.1.stackTraces = false) (NC : cr_NC Γ.2.2.2.2.1) {b L : Nat} {xs : Nat → Int32} (SC : va_X b L xs Γ.2.2.2.2.1 Γ.2.2.2.2.1.heap ∧ b < Γ.2.2.2.2.1.heap.size ∧ ¬ E.2.2.1 b) {Φ : Unit → (State → Prop) → Prop} (j : Nat) (hj : j ≤ 511) (x4 : Int32) (k23 : Int32 → cr_S → Option Unit) (hk23 : ∀ S9, cr_P Γ E 9 Φ (2 * j + 300 + 2) (12 * j + 20000 + 12) S9 23 [(0, .ref b), (1, .ref (E.2.1 8 0)), (2, .ref (E.2.1 9 0)), (3, .ref (E.2.1 10 0)), (4, .int (x4 + 4))] [] (k23 (x4 + 4) S9)) (S : cr_S) : cr_P Γ E 9 Φ (2 * j + 300) (12 * j + 20000) S 376 ([(0, .ref b), (1, .ref (E.2.1 8 0)), (2, .ref (E.2.1 9 0)), (3, .ref (E.2.1 10 0)), (4, .int x4)]) [] (s_L_law_376 xs L k23 x4 S) := by
  have hEK := X.2.2.2.2.2.2.1
  unfold s_L_law_376
  refine cr_aload_n X 1 rfl dL_law_376 ?_
  refine cr_aload_n X 0 rfl dL_law_377 ?_
  refine cr_iload X 4 rfl dL_law_378 ?_
  refine cr_iconst X (1 : Int32) (by decide) dL_law_380 ?_
  refine cr_iadd X dL_law_381 ?_
  refine cr_sald X SC dL_law_382 ?_
  refine cr_aload_n X 0 rfl dL_law_383 ?_
  refine cr_iload X 4 rfl dL_law_384 ?_
  refine cr_iconst X (2 : Int32) (by decide) dL_law_386 ?_
  refine cr_iadd X dL_law_387 ?_
  refine cr_sald X SC dL_law_388 ?_
  refine cr_aload_n X 3 rfl dL_law_389 ?_
  refine cr_callSc X NC (As := [.ref (E.2.1 8 0), .int ((xs ((x4 + (1 : Int32))).toNatClampNeg)), .int ((xs ((x4 + (2 : Int32))).toNatClampNeg)), .ref (E.2.1 10 0)]) (rest := []) 2 12 (c_L_set Γ.2.1 Yl E hEK S ((xs ((x4 + (1 : Int32))).toNatClampNeg)) ((xs ((x4 + (2 : Int32))).toNatClampNeg))) 4 gL_law_L_set rfl rfl rfl (by decide +kernel) ⟨Nat.le_of_ble_eq_true rfl, Nat.le_of_ble_eq_true rfl⟩ ⟨show 2 * j + 300 + 2 ≤ 601024 by omega, show 12 * j + 20000 + 12 ≤ 7293034 by omega⟩ rfl rfl (Nat.le_of_ble_eq_true rfl) dL_law_390 (fun r390_19 => ?_)
  show cr_P Γ E 9 _ (2 * j + 300 + 2) (12 * j + 20000 + 12) r390_19.2 393 ([(0, .ref b), (1, .ref (E.2.1 8 0)), (2, .ref (E.2.1 9 0)), (3, .ref (E.2.1 10 0)), (4, .int x4)]) ([.int r390_19.1]) _
  refine cr_istore X ([(5, .int r390_19.1), (0, .ref b), (1, .ref (E.2.1 8 0)), (2, .ref (E.2.1 9 0)), (3, .ref (E.2.1 10 0)), (4, .int x4)]) rfl (by decide) dL_law_393 ?_
  refine cr_aload_n X 3 rfl dL_law_395 ?_
  refine cr_aload_n X 1 rfl dL_law_396 ?_
  refine cr_iload X 5 rfl dL_law_397 ?_
  refine cr_iconst X (1 : Int32) (by decide) dL_law_399 ?_
  refine cr_iadd X dL_law_400 ?_
  refine cr_sald X SC dL_law_401 ?_
  refine cr_aload_n X 1 rfl dL_law_402 ?_
  refine cr_iload X 5 rfl dL_law_403 ?_
  refine cr_iconst X (2 : Int32) (by decide) dL_law_405 ?_
  refine cr_iadd X dL_law_406 ?_
  refine cr_sald X SC dL_law_407 ?_
  refine cr_callV X (As := [.int ((xs ((x4 + (1 : Int32))).toNatClampNeg)), .int ((xs ((x4 + (2 : Int32))).toNatClampNeg))]) (rest := []) (c_X9_set_S Γ.2.1 E hEK r390_19.2 ((xs ((x4 + (1 : Int32))).toNatClampNeg)) ((xs ((x4 + (2 : Int32))).toNatClampNeg))) ((cr_m0 E).at rfl rfl) rfl 2 gL_law_X9_set rfl rfl rfl (by decide +kernel) ⟨Nat.le_of_ble_eq_true rfl, Nat.le_of_ble_eq_true rfl⟩ ⟨show 2 * j + 300 + 2 ≤ 601024 by omega, show 12 * j + 20000 + 12 ≤ 7293034 by omega⟩ rfl rfl (Nat.le_of_ble_eq_true rfl) dL_law_408 (fun r408_20 => ?_)
  show cr_P Γ E 9 _ (2 * j + 300 + 2) (12 * j + 20000 + 12) (cr_us r390_19.2 9 r408_20.2) 411 ([(5, .int r390_19.1), (0, .ref b), (1, .ref (E.2.1 8 0)), (2, .ref (E.2.1 9 0)), (3, .ref (E.2.1 10 0)), (4, .int x4)]) ([.int r408_20.1]) _
  refine cr_bds (fun S408_21 => ?_)
  refine cr_istore X ([(6, .int r408_20.1), (5, .int r390_19.1), (0, .ref b), (1, .ref (E.2.1 8 0)), (2, .ref (E.2.1 9 0)), (3, .ref (E.2.1 10 0)), (4, .int x4)]) rfl (by decide) dL_law_411 ?_
  refine cr_aload_n X 4 rfl dL_law_413 ?_
  refine cr_callV X (As := []) (rest := []) (c_X9_thrown_S Γ.2.1 E hEK S408_21) ((cr_m0 E).at rfl rfl) rfl 0 gL_law_X9_thrown rfl rfl rfl (by decide +kernel) ⟨Nat.le_of_ble_eq_true rfl, Nat.le_of_ble_eq_true rfl⟩ ⟨show 2 * j + 300 + 2 ≤ 601024 by omega, show 12 * j + 20000 + 12 ≤ 7293034 by omega⟩ rfl rfl (Nat.le_of_ble_eq_true rfl) dL_law_414 (fun r414_22 => ?_)
  show cr_P Γ E 9 _ (2 * j + 300 + 2) (12 * j + 20000 + 12) S408_21 417 ([(6, .int r408_20.1), (5, .int r390_19.1), (0, .ref b), (1, .ref (E.2.1 8 0)), (2, .ref (E.2.1 9 0)), (3, .ref (E.2.1 10 0)), (4, .int x4)]) ([.int r414_22]) _
  refine cr_iload X 1 rfl dL_law_417 ?_
  refine cr_icmp_eq X 424 dL_law_419 rfl ?_ ?_
  · refine cr_iload X 1 rfl dL_law_424 ?_
    refine cr_if_ne X 441 dL_law_426 rfl ?_ ?_
    · refine cr_goto X 1550 dL_law_441 rfl ?_
      refine cr_iinc0 X (x4 + 4) ([(4, .int ((x4 + 4))), (6, .int r408_20.1), (5, .int r390_19.1), (0, .ref b), (1, .ref (E.2.1 8 0)), (2, .ref (E.2.1 9 0)), (3, .ref (E.2.1 10 0))]) 6 rfl rfl rfl (by decide) dL_law_1550 ?_
      refine cr_goto X 23 dL_law_1553 rfl ?_
      refine cr_widen (2 * j + 300 + 2) (12 * j + 20000 + 12) (by omega) (by omega) ?_
      refine cr_sub (lv' := [(0, .ref b), (1, .ref (E.2.1 8 0)), (2, .ref (E.2.1 9 0)), (3, .ref (E.2.1 10 0)), (4, .int ((x4 + 4)))]) [3, 4, 5, 6, 0] rfl ?_
      exact hk23 S408_21
    · refine cr_aload_n X 5 rfl dL_law_429 ?_
      refine cr_iconst X (0 : Int32) (by decide) dL_law_430 ?_
      refine cr_lald X ((cr_o0 E).at rfl rfl) dL_law_431 ?_
      refine cr_iload X 0 rfl dL_law_432 ?_
      refine cr_i2l X dL_law_434 ?_
      refine cr_lcmp X dL_law_435 ?_
      refine cr_if_eq X 441 dL_law_436 rfl ?_ ?_
      · refine cr_goto X 1550 dL_law_441 rfl ?_
        refine cr_iinc0 X (x4 + 4) ([(4, .int ((x4 + 4))), (6, .int r408_20.1), (5, .int r390_19.1), (0, .ref b), (1, .ref (E.2.1 8 0)), (2, .ref (E.2.1 9 0)), (3, .ref (E.2.1 10 0))]) 6 rfl rfl rfl (by decide) dL_law_1550 ?_
        refine cr_goto X 23 dL_law_1553 rfl ?_
        refine cr_widen (2 * j + 300 + 2) (12 * j + 20000 + 12) (by omega) (by omega) ?_
        refine cr_sub (lv' := [(0, .ref b), (1, .ref (E.2.1 8 0)), (2, .ref (E.2.1 9 0)), (3, .ref (E.2.1 10 0)), (4, .int ((x4 + 4)))]) [3, 4, 5, 6, 0] rfl ?_
        exact hk23 S408_21
      · refine cr_iconst X (0 : Int32) (by decide) dL_law_439 ?_
        exact cr_none
  · refine cr_iconst X (0 : Int32) (by decide) dL_law_422 ?_
    exact cr_none
set_option maxHeartbeats 4000000 in
set_option maxRecDepth 100000 in
theorem b_L_law_444 {Γ : cr_C} {E : cr_E} (X : cr_X Γ E cL_law 9 RL wsL_law room_1 (some .boolean)) (Yl : Γ.2.1.stackTraces = false) (NC : cr_NC Γ.2.2.2.2.1) {b L : Nat} {xs : Nat → Int32} (SC : va_X b L xs Γ.2.2.2.2.1 Γ.2.2.2.2.1.heap ∧ b < Γ.2.2.2.2.1.heap.size ∧ ¬ E.2.2.1 b) {Φ : Unit → (State → Prop) → Prop} (j : Nat) (hj : j ≤ 511) (x4 : Int32) (k23 : Int32 → cr_S → Option Unit) (hk23 : ∀ S9, cr_P Γ E 9 Φ (2 * j + 300 + 2) (12 * j + 20000 + 12) S9 23 [(0, .ref b), (1, .ref (E.2.1 8 0)), (2, .ref (E.2.1 9 0)), (3, .ref (E.2.1 10 0)), (4, .int (x4 + 4))] [] (k23 (x4 + 4) S9)) (S : cr_S) : cr_P Γ E 9 Φ (2 * j + 300) (12 * j + 20000) S 444 ([(0, .ref b), (1, .ref (E.2.1 8 0)), (2, .ref (E.2.1 9 0)), (3, .ref (E.2.1 10 0)), (4, .int x4)]) [] (s_L_law_444 xs L k23 x4 S) := by
  have hEK := X.2.2.2.2.2.2.1
  unfold s_L_law_444
  refine cr_aload_n X 1 rfl dL_law_444 ?_
  refine cr_aload_n X 0 rfl dL_law_445 ?_
  refine cr_iload X 4 rfl dL_law_446 ?_
  refine cr_iconst X (1 : Int32) (by decide) dL_law_448 ?_
  refine cr_iadd X dL_law_449 ?_
  refine cr_sald X SC dL_law_450 ?_
  refine cr_aload_n X 0 rfl dL_law_451 ?_
  refine cr_iload X 4 rfl dL_law_452 ?_
  refine cr_iconst X (2 : Int32) (by decide) dL_law_454 ?_
  refine cr_iadd X dL_law_455 ?_
  refine cr_sald X SC dL_law_456 ?_
  refine cr_aload_n X 3 rfl dL_law_457 ?_
  refine cr_callSc X NC (As := [.ref (E.2.1 8 0), .int ((xs ((x4 + (1 : Int32))).toNatClampNeg)), .int ((xs ((x4 + (2 : Int32))).toNatClampNeg)), .ref (E.2.1 10 0)]) (rest := []) 2 12 (c_L_plan Γ.2.1 Yl E hEK S ((xs ((x4 + (1 : Int32))).toNatClampNeg)) ((xs ((x4 + (2 : Int32))).toNatClampNeg))) 4 gL_law_L_plan rfl rfl rfl (by decide +kernel) ⟨Nat.le_of_ble_eq_true rfl, Nat.le_of_ble_eq_true rfl⟩ ⟨show 2 * j + 300 + 2 ≤ 601024 by omega, show 12 * j + 20000 + 12 ≤ 7293034 by omega⟩ rfl rfl (Nat.le_of_ble_eq_true rfl) dL_law_458 (fun r458_25 => ?_)
  show cr_P Γ E 9 _ (2 * j + 300 + 2) (12 * j + 20000 + 12) r458_25.2 461 ([(0, .ref b), (1, .ref (E.2.1 8 0)), (2, .ref (E.2.1 9 0)), (3, .ref (E.2.1 10 0)), (4, .int x4)]) ([.int r458_25.1]) _
  refine cr_istore X ([(5, .int r458_25.1), (0, .ref b), (1, .ref (E.2.1 8 0)), (2, .ref (E.2.1 9 0)), (3, .ref (E.2.1 10 0)), (4, .int x4)]) rfl (by decide) dL_law_461 ?_
  refine cr_aload_n X 3 rfl dL_law_463 ?_
  refine cr_aload_n X 1 rfl dL_law_464 ?_
  refine cr_iload X 5 rfl dL_law_465 ?_
  refine cr_iconst X (1 : Int32) (by decide) dL_law_467 ?_
  refine cr_iadd X dL_law_468 ?_
  refine cr_sald X SC dL_law_469 ?_
  refine cr_aload_n X 1 rfl dL_law_470 ?_
  refine cr_iload X 5 rfl dL_law_471 ?_
  refine cr_iconst X (2 : Int32) (by decide) dL_law_473 ?_
  refine cr_iadd X dL_law_474 ?_
  refine cr_sald X SC dL_law_475 ?_
  refine cr_callV X (As := [.int ((xs ((x4 + (1 : Int32))).toNatClampNeg)), .int ((xs ((x4 + (2 : Int32))).toNatClampNeg))]) (rest := []) (c_X9_plan_S Γ.2.1 E hEK r458_25.2 ((xs ((x4 + (1 : Int32))).toNatClampNeg)) ((xs ((x4 + (2 : Int32))).toNatClampNeg))) ((cr_m0 E).at rfl rfl) rfl 2 gL_law_X9_plan rfl rfl rfl (by decide +kernel) ⟨Nat.le_of_ble_eq_true rfl, Nat.le_of_ble_eq_true rfl⟩ ⟨show 2 * j + 300 + 2 ≤ 601024 by omega, show 12 * j + 20000 + 12 ≤ 7293034 by omega⟩ rfl rfl (Nat.le_of_ble_eq_true rfl) dL_law_476 (fun r476_26 => ?_)
  show cr_P Γ E 9 _ (2 * j + 300 + 2) (12 * j + 20000 + 12) (cr_us r458_25.2 9 r476_26.2) 479 ([(5, .int r458_25.1), (0, .ref b), (1, .ref (E.2.1 8 0)), (2, .ref (E.2.1 9 0)), (3, .ref (E.2.1 10 0)), (4, .int x4)]) ([.int r476_26.1]) _
  refine cr_bds (fun S476_27 => ?_)
  refine cr_istore X ([(6, .int r476_26.1), (5, .int r458_25.1), (0, .ref b), (1, .ref (E.2.1 8 0)), (2, .ref (E.2.1 9 0)), (3, .ref (E.2.1 10 0)), (4, .int x4)]) rfl (by decide) dL_law_479 ?_
  refine cr_aload_n X 4 rfl dL_law_481 ?_
  refine cr_callV X (As := []) (rest := []) (c_X9_thrown_S Γ.2.1 E hEK S476_27) ((cr_m0 E).at rfl rfl) rfl 0 gL_law_X9_thrown rfl rfl rfl (by decide +kernel) ⟨Nat.le_of_ble_eq_true rfl, Nat.le_of_ble_eq_true rfl⟩ ⟨show 2 * j + 300 + 2 ≤ 601024 by omega, show 12 * j + 20000 + 12 ≤ 7293034 by omega⟩ rfl rfl (Nat.le_of_ble_eq_true rfl) dL_law_482 (fun r482_28 => ?_)
  show cr_P Γ E 9 _ (2 * j + 300 + 2) (12 * j + 20000 + 12) S476_27 485 ([(6, .int r476_26.1), (5, .int r458_25.1), (0, .ref b), (1, .ref (E.2.1 8 0)), (2, .ref (E.2.1 9 0)), (3, .ref (E.2.1 10 0)), (4, .int x4)]) ([.int r482_28]) _
  refine cr_iload X 1 rfl dL_law_485 ?_
  refine cr_icmp_eq X 492 dL_law_487 rfl ?_ ?_
  · refine cr_iload X 1 rfl dL_law_492 ?_
    refine cr_if_ne X 509 dL_law_494 rfl ?_ ?_
    · refine cr_goto X 1550 dL_law_509 rfl ?_
      refine cr_iinc0 X (x4 + 4) ([(4, .int ((x4 + 4))), (6, .int r476_26.1), (5, .int r458_25.1), (0, .ref b), (1, .ref (E.2.1 8 0)), (2, .ref (E.2.1 9 0)), (3, .ref (E.2.1 10 0))]) 6 rfl rfl rfl (by decide) dL_law_1550 ?_
      refine cr_goto X 23 dL_law_1553 rfl ?_
      refine cr_widen (2 * j + 300 + 2) (12 * j + 20000 + 12) (by omega) (by omega) ?_
      refine cr_sub (lv' := [(0, .ref b), (1, .ref (E.2.1 8 0)), (2, .ref (E.2.1 9 0)), (3, .ref (E.2.1 10 0)), (4, .int ((x4 + 4)))]) [3, 4, 5, 6, 0] rfl ?_
      exact hk23 S476_27
    · refine cr_aload_n X 5 rfl dL_law_497 ?_
      refine cr_iconst X (0 : Int32) (by decide) dL_law_498 ?_
      refine cr_lald X ((cr_o0 E).at rfl rfl) dL_law_499 ?_
      refine cr_iload X 0 rfl dL_law_500 ?_
      refine cr_i2l X dL_law_502 ?_
      refine cr_lcmp X dL_law_503 ?_
      refine cr_if_eq X 509 dL_law_504 rfl ?_ ?_
      · refine cr_goto X 1550 dL_law_509 rfl ?_
        refine cr_iinc0 X (x4 + 4) ([(4, .int ((x4 + 4))), (6, .int r476_26.1), (5, .int r458_25.1), (0, .ref b), (1, .ref (E.2.1 8 0)), (2, .ref (E.2.1 9 0)), (3, .ref (E.2.1 10 0))]) 6 rfl rfl rfl (by decide) dL_law_1550 ?_
        refine cr_goto X 23 dL_law_1553 rfl ?_
        refine cr_widen (2 * j + 300 + 2) (12 * j + 20000 + 12) (by omega) (by omega) ?_
        refine cr_sub (lv' := [(0, .ref b), (1, .ref (E.2.1 8 0)), (2, .ref (E.2.1 9 0)), (3, .ref (E.2.1 10 0)), (4, .int ((x4 + 4)))]) [3, 4, 5, 6, 0] rfl ?_
        exact hk23 S476_27
      · refine cr_iconst X (0 : Int32) (by decide) dL_law_507 ?_
        exact cr_none
  · refine cr_iconst X (0 : Int32) (by decide) dL_law_490 ?_
    exact cr_none
set_option maxHeartbeats 4000000 in
set_option maxRecDepth 100000 in
theorem b_L_law_512 {Γ : cr_C} {E : cr_E} (X : cr_X Γ E cL_law 9 RL wsL_law room_1 (some .boolean)) (Yl : Γ.2.1.stackTraces = false) (NC : cr_NC Γ.2.2.2.2.1) {b L : Nat} {xs : Nat → Int32} (SC : va_X b L xs Γ.2.2.2.2.1 Γ.2.2.2.2.1.heap ∧ b < Γ.2.2.2.2.1.heap.size ∧ ¬ E.2.2.1 b) {Φ : Unit → (State → Prop) → Prop} (j : Nat) (hj : j ≤ 511) (x4 : Int32) (k23 : Int32 → cr_S → Option Unit) (hk23 : ∀ S9, cr_P Γ E 9 Φ (2 * j + 300 + 2) (12 * j + 20000 + 12) S9 23 [(0, .ref b), (1, .ref (E.2.1 8 0)), (2, .ref (E.2.1 9 0)), (3, .ref (E.2.1 10 0)), (4, .int (x4 + 4))] [] (k23 (x4 + 4) S9)) (S : cr_S) : cr_P Γ E 9 Φ (2 * j + 300) (12 * j + 20000) S 512 ([(0, .ref b), (1, .ref (E.2.1 8 0)), (2, .ref (E.2.1 9 0)), (3, .ref (E.2.1 10 0)), (4, .int x4)]) [] (s_L_law_512 xs L k23 x4 S) := by
  have hEK := X.2.2.2.2.2.2.1
  unfold s_L_law_512
  refine cr_aload_n X 1 rfl dL_law_512 ?_
  refine cr_aload_n X 0 rfl dL_law_513 ?_
  refine cr_iload X 4 rfl dL_law_514 ?_
  refine cr_iconst X (1 : Int32) (by decide) dL_law_516 ?_
  refine cr_iadd X dL_law_517 ?_
  refine cr_sald X SC dL_law_518 ?_
  refine cr_aload_n X 3 rfl dL_law_519 ?_
  refine cr_callSc X NC (As := [.ref (E.2.1 8 0), .int ((xs ((x4 + (1 : Int32))).toNatClampNeg)), .ref (E.2.1 10 0)]) (rest := []) 2 12 (c_L_unplan Γ.2.1 Yl E hEK S ((xs ((x4 + (1 : Int32))).toNatClampNeg))) 3 gL_law_L_unplan rfl rfl rfl (by decide +kernel) ⟨Nat.le_of_ble_eq_true rfl, Nat.le_of_ble_eq_true rfl⟩ ⟨show 2 * j + 300 + 2 ≤ 601024 by omega, show 12 * j + 20000 + 12 ≤ 7293034 by omega⟩ rfl rfl (Nat.le_of_ble_eq_true rfl) dL_law_520 (fun r520_31 => ?_)
  show cr_P Γ E 9 _ (2 * j + 300 + 2) (12 * j + 20000 + 12) r520_31.2 523 ([(0, .ref b), (1, .ref (E.2.1 8 0)), (2, .ref (E.2.1 9 0)), (3, .ref (E.2.1 10 0)), (4, .int x4)]) ([.int r520_31.1]) _
  refine cr_istore X ([(5, .int r520_31.1), (0, .ref b), (1, .ref (E.2.1 8 0)), (2, .ref (E.2.1 9 0)), (3, .ref (E.2.1 10 0)), (4, .int x4)]) rfl (by decide) dL_law_523 ?_
  refine cr_aload_n X 3 rfl dL_law_525 ?_
  refine cr_aload_n X 1 rfl dL_law_526 ?_
  refine cr_iload X 5 rfl dL_law_527 ?_
  refine cr_iconst X (1 : Int32) (by decide) dL_law_529 ?_
  refine cr_iadd X dL_law_530 ?_
  refine cr_sald X SC dL_law_531 ?_
  refine cr_callV X (As := [.int ((xs ((x4 + (1 : Int32))).toNatClampNeg))]) (rest := []) (c_X9_unplan_S Γ.2.1 E hEK r520_31.2 ((xs ((x4 + (1 : Int32))).toNatClampNeg))) ((cr_m0 E).at rfl rfl) rfl 1 gL_law_X9_unplan rfl rfl rfl (by decide +kernel) ⟨Nat.le_of_ble_eq_true rfl, Nat.le_of_ble_eq_true rfl⟩ ⟨show 2 * j + 300 + 2 ≤ 601024 by omega, show 12 * j + 20000 + 12 ≤ 7293034 by omega⟩ rfl rfl (Nat.le_of_ble_eq_true rfl) dL_law_532 (fun r532_32 => ?_)
  show cr_P Γ E 9 _ (2 * j + 300 + 2) (12 * j + 20000 + 12) (cr_us r520_31.2 9 r532_32.2) 535 ([(5, .int r520_31.1), (0, .ref b), (1, .ref (E.2.1 8 0)), (2, .ref (E.2.1 9 0)), (3, .ref (E.2.1 10 0)), (4, .int x4)]) ([.int r532_32.1]) _
  refine cr_bds (fun S532_33 => ?_)
  refine cr_istore X ([(6, .int r532_32.1), (5, .int r520_31.1), (0, .ref b), (1, .ref (E.2.1 8 0)), (2, .ref (E.2.1 9 0)), (3, .ref (E.2.1 10 0)), (4, .int x4)]) rfl (by decide) dL_law_535 ?_
  refine cr_aload_n X 4 rfl dL_law_537 ?_
  refine cr_callV X (As := []) (rest := []) (c_X9_thrown_S Γ.2.1 E hEK S532_33) ((cr_m0 E).at rfl rfl) rfl 0 gL_law_X9_thrown rfl rfl rfl (by decide +kernel) ⟨Nat.le_of_ble_eq_true rfl, Nat.le_of_ble_eq_true rfl⟩ ⟨show 2 * j + 300 + 2 ≤ 601024 by omega, show 12 * j + 20000 + 12 ≤ 7293034 by omega⟩ rfl rfl (Nat.le_of_ble_eq_true rfl) dL_law_538 (fun r538_34 => ?_)
  show cr_P Γ E 9 _ (2 * j + 300 + 2) (12 * j + 20000 + 12) S532_33 541 ([(6, .int r532_32.1), (5, .int r520_31.1), (0, .ref b), (1, .ref (E.2.1 8 0)), (2, .ref (E.2.1 9 0)), (3, .ref (E.2.1 10 0)), (4, .int x4)]) ([.int r538_34]) _
  refine cr_iload X 1 rfl dL_law_541 ?_
  refine cr_icmp_eq X 548 dL_law_543 rfl ?_ ?_
  · refine cr_iload X 1 rfl dL_law_548 ?_
    refine cr_if_ne X 565 dL_law_550 rfl ?_ ?_
    · refine cr_goto X 1550 dL_law_565 rfl ?_
      refine cr_iinc0 X (x4 + 4) ([(4, .int ((x4 + 4))), (6, .int r532_32.1), (5, .int r520_31.1), (0, .ref b), (1, .ref (E.2.1 8 0)), (2, .ref (E.2.1 9 0)), (3, .ref (E.2.1 10 0))]) 6 rfl rfl rfl (by decide) dL_law_1550 ?_
      refine cr_goto X 23 dL_law_1553 rfl ?_
      refine cr_widen (2 * j + 300 + 2) (12 * j + 20000 + 12) (by omega) (by omega) ?_
      refine cr_sub (lv' := [(0, .ref b), (1, .ref (E.2.1 8 0)), (2, .ref (E.2.1 9 0)), (3, .ref (E.2.1 10 0)), (4, .int ((x4 + 4)))]) [3, 4, 5, 6, 0] rfl ?_
      exact hk23 S532_33
    · refine cr_aload_n X 5 rfl dL_law_553 ?_
      refine cr_iconst X (0 : Int32) (by decide) dL_law_554 ?_
      refine cr_lald X ((cr_o0 E).at rfl rfl) dL_law_555 ?_
      refine cr_iload X 0 rfl dL_law_556 ?_
      refine cr_i2l X dL_law_558 ?_
      refine cr_lcmp X dL_law_559 ?_
      refine cr_if_eq X 565 dL_law_560 rfl ?_ ?_
      · refine cr_goto X 1550 dL_law_565 rfl ?_
        refine cr_iinc0 X (x4 + 4) ([(4, .int ((x4 + 4))), (6, .int r532_32.1), (5, .int r520_31.1), (0, .ref b), (1, .ref (E.2.1 8 0)), (2, .ref (E.2.1 9 0)), (3, .ref (E.2.1 10 0))]) 6 rfl rfl rfl (by decide) dL_law_1550 ?_
        refine cr_goto X 23 dL_law_1553 rfl ?_
        refine cr_widen (2 * j + 300 + 2) (12 * j + 20000 + 12) (by omega) (by omega) ?_
        refine cr_sub (lv' := [(0, .ref b), (1, .ref (E.2.1 8 0)), (2, .ref (E.2.1 9 0)), (3, .ref (E.2.1 10 0)), (4, .int ((x4 + 4)))]) [3, 4, 5, 6, 0] rfl ?_
        exact hk23 S532_33
      · refine cr_iconst X (0 : Int32) (by decide) dL_law_563 ?_
        exact cr_none
  · refine cr_iconst X (0 : Int32) (by decide) dL_law_546 ?_
    exact cr_none
set_option maxHeartbeats 4000000 in
set_option maxRecDepth 100000 in
theorem b_L_law_568 {Γ : cr_C} {E : cr_E} (X : cr_X Γ E cL_law 9 RL wsL_law room_1 (some .boolean)) (Yl : Γ.2.1.stackTraces = false) (NC : cr_NC Γ.2.2.2.2.1) {b L : Nat} {xs : Nat → Int32} (SC : va_X b L xs Γ.2.2.2.2.1 Γ.2.2.2.2.1.heap ∧ b < Γ.2.2.2.2.1.heap.size ∧ ¬ E.2.2.1 b) {Φ : Unit → (State → Prop) → Prop} (j : Nat) (hj : j ≤ 511) (x4 : Int32) (k23 : Int32 → cr_S → Option Unit) (hk23 : ∀ S9, cr_P Γ E 9 Φ (2 * j + 300 + 2) (12 * j + 20000 + 12) S9 23 [(0, .ref b), (1, .ref (E.2.1 8 0)), (2, .ref (E.2.1 9 0)), (3, .ref (E.2.1 10 0)), (4, .int (x4 + 4))] [] (k23 (x4 + 4) S9)) (S : cr_S) : cr_P Γ E 9 Φ (2 * j + 300) (12 * j + 20000) S 568 ([(0, .ref b), (1, .ref (E.2.1 8 0)), (2, .ref (E.2.1 9 0)), (3, .ref (E.2.1 10 0)), (4, .int x4)]) [] (s_L_law_568 xs L k23 x4 S) := by
  have hEK := X.2.2.2.2.2.2.1
  unfold s_L_law_568
  refine cr_aload_n X 1 rfl dL_law_568 ?_
  refine cr_aload_n X 0 rfl dL_law_569 ?_
  refine cr_iload X 4 rfl dL_law_570 ?_
  refine cr_iconst X (1 : Int32) (by decide) dL_law_572 ?_
  refine cr_iadd X dL_law_573 ?_
  refine cr_sald X SC dL_law_574 ?_
  refine cr_aload_n X 3 rfl dL_law_575 ?_
  refine cr_callSc X NC (As := [.ref (E.2.1 8 0), .int ((xs ((x4 + (1 : Int32))).toNatClampNeg)), .ref (E.2.1 10 0)]) (rest := []) 2 12 (c_L_orderBlade Γ.2.1 Yl E hEK S ((xs ((x4 + (1 : Int32))).toNatClampNeg))) 3 gL_law_L_orderBlade rfl rfl rfl (by decide +kernel) ⟨Nat.le_of_ble_eq_true rfl, Nat.le_of_ble_eq_true rfl⟩ ⟨show 2 * j + 300 + 2 ≤ 601024 by omega, show 12 * j + 20000 + 12 ≤ 7293034 by omega⟩ rfl rfl (Nat.le_of_ble_eq_true rfl) dL_law_576 (fun r576_37 => ?_)
  show cr_P Γ E 9 _ (2 * j + 300 + 2) (12 * j + 20000 + 12) r576_37.2 579 ([(0, .ref b), (1, .ref (E.2.1 8 0)), (2, .ref (E.2.1 9 0)), (3, .ref (E.2.1 10 0)), (4, .int x4)]) ([.int r576_37.1]) _
  refine cr_istore X ([(5, .int r576_37.1), (0, .ref b), (1, .ref (E.2.1 8 0)), (2, .ref (E.2.1 9 0)), (3, .ref (E.2.1 10 0)), (4, .int x4)]) rfl (by decide) dL_law_579 ?_
  refine cr_aload_n X 3 rfl dL_law_581 ?_
  refine cr_aload_n X 1 rfl dL_law_582 ?_
  refine cr_iload X 5 rfl dL_law_583 ?_
  refine cr_iconst X (1 : Int32) (by decide) dL_law_585 ?_
  refine cr_iadd X dL_law_586 ?_
  refine cr_sald X SC dL_law_587 ?_
  refine cr_callV X (As := [.int ((xs ((x4 + (1 : Int32))).toNatClampNeg))]) (rest := []) (c_X9_orderBlade_S Γ.2.1 E hEK r576_37.2 ((xs ((x4 + (1 : Int32))).toNatClampNeg))) ((cr_m0 E).at rfl rfl) rfl 1 gL_law_X9_orderBlade rfl rfl rfl (by decide +kernel) ⟨Nat.le_of_ble_eq_true rfl, Nat.le_of_ble_eq_true rfl⟩ ⟨show 2 * j + 300 + 2 ≤ 601024 by omega, show 12 * j + 20000 + 12 ≤ 7293034 by omega⟩ rfl rfl (Nat.le_of_ble_eq_true rfl) dL_law_588 (fun r588_38 => ?_)
  show cr_P Γ E 9 _ (2 * j + 300 + 2) (12 * j + 20000 + 12) (cr_us r576_37.2 9 r588_38.2) 591 ([(5, .int r576_37.1), (0, .ref b), (1, .ref (E.2.1 8 0)), (2, .ref (E.2.1 9 0)), (3, .ref (E.2.1 10 0)), (4, .int x4)]) ([.int r588_38.1]) _
  refine cr_bds (fun S588_39 => ?_)
  refine cr_istore X ([(6, .int r588_38.1), (5, .int r576_37.1), (0, .ref b), (1, .ref (E.2.1 8 0)), (2, .ref (E.2.1 9 0)), (3, .ref (E.2.1 10 0)), (4, .int x4)]) rfl (by decide) dL_law_591 ?_
  refine cr_aload_n X 4 rfl dL_law_593 ?_
  refine cr_callV X (As := []) (rest := []) (c_X9_thrown_S Γ.2.1 E hEK S588_39) ((cr_m0 E).at rfl rfl) rfl 0 gL_law_X9_thrown rfl rfl rfl (by decide +kernel) ⟨Nat.le_of_ble_eq_true rfl, Nat.le_of_ble_eq_true rfl⟩ ⟨show 2 * j + 300 + 2 ≤ 601024 by omega, show 12 * j + 20000 + 12 ≤ 7293034 by omega⟩ rfl rfl (Nat.le_of_ble_eq_true rfl) dL_law_594 (fun r594_40 => ?_)
  show cr_P Γ E 9 _ (2 * j + 300 + 2) (12 * j + 20000 + 12) S588_39 597 ([(6, .int r588_38.1), (5, .int r576_37.1), (0, .ref b), (1, .ref (E.2.1 8 0)), (2, .ref (E.2.1 9 0)), (3, .ref (E.2.1 10 0)), (4, .int x4)]) ([.int r594_40]) _
  refine cr_iload X 1 rfl dL_law_597 ?_
  refine cr_icmp_eq X 604 dL_law_599 rfl ?_ ?_
  · refine cr_iload X 1 rfl dL_law_604 ?_
    refine cr_if_ne X 621 dL_law_606 rfl ?_ ?_
    · refine cr_goto X 1550 dL_law_621 rfl ?_
      refine cr_iinc0 X (x4 + 4) ([(4, .int ((x4 + 4))), (6, .int r588_38.1), (5, .int r576_37.1), (0, .ref b), (1, .ref (E.2.1 8 0)), (2, .ref (E.2.1 9 0)), (3, .ref (E.2.1 10 0))]) 6 rfl rfl rfl (by decide) dL_law_1550 ?_
      refine cr_goto X 23 dL_law_1553 rfl ?_
      refine cr_widen (2 * j + 300 + 2) (12 * j + 20000 + 12) (by omega) (by omega) ?_
      refine cr_sub (lv' := [(0, .ref b), (1, .ref (E.2.1 8 0)), (2, .ref (E.2.1 9 0)), (3, .ref (E.2.1 10 0)), (4, .int ((x4 + 4)))]) [3, 4, 5, 6, 0] rfl ?_
      exact hk23 S588_39
    · refine cr_aload_n X 5 rfl dL_law_609 ?_
      refine cr_iconst X (0 : Int32) (by decide) dL_law_610 ?_
      refine cr_lald X ((cr_o0 E).at rfl rfl) dL_law_611 ?_
      refine cr_iload X 0 rfl dL_law_612 ?_
      refine cr_i2l X dL_law_614 ?_
      refine cr_lcmp X dL_law_615 ?_
      refine cr_if_eq X 621 dL_law_616 rfl ?_ ?_
      · refine cr_goto X 1550 dL_law_621 rfl ?_
        refine cr_iinc0 X (x4 + 4) ([(4, .int ((x4 + 4))), (6, .int r588_38.1), (5, .int r576_37.1), (0, .ref b), (1, .ref (E.2.1 8 0)), (2, .ref (E.2.1 9 0)), (3, .ref (E.2.1 10 0))]) 6 rfl rfl rfl (by decide) dL_law_1550 ?_
        refine cr_goto X 23 dL_law_1553 rfl ?_
        refine cr_widen (2 * j + 300 + 2) (12 * j + 20000 + 12) (by omega) (by omega) ?_
        refine cr_sub (lv' := [(0, .ref b), (1, .ref (E.2.1 8 0)), (2, .ref (E.2.1 9 0)), (3, .ref (E.2.1 10 0)), (4, .int ((x4 + 4)))]) [3, 4, 5, 6, 0] rfl ?_
        exact hk23 S588_39
      · refine cr_iconst X (0 : Int32) (by decide) dL_law_619 ?_
        exact cr_none
  · refine cr_iconst X (0 : Int32) (by decide) dL_law_602 ?_
    exact cr_none
set_option maxHeartbeats 4000000 in
set_option maxRecDepth 100000 in
theorem b_L_law_624 {Γ : cr_C} {E : cr_E} (X : cr_X Γ E cL_law 9 RL wsL_law room_1 (some .boolean)) (Yl : Γ.2.1.stackTraces = false) (NC : cr_NC Γ.2.2.2.2.1) {b L : Nat} {xs : Nat → Int32} (SC : va_X b L xs Γ.2.2.2.2.1 Γ.2.2.2.2.1.heap ∧ b < Γ.2.2.2.2.1.heap.size ∧ ¬ E.2.2.1 b) {Φ : Unit → (State → Prop) → Prop} (j : Nat) (hj : j ≤ 511) (x4 : Int32) (k23 : Int32 → cr_S → Option Unit) (hk23 : ∀ S9, cr_P Γ E 9 Φ (2 * j + 300 + 2) (12 * j + 20000 + 12) S9 23 [(0, .ref b), (1, .ref (E.2.1 8 0)), (2, .ref (E.2.1 9 0)), (3, .ref (E.2.1 10 0)), (4, .int (x4 + 4))] [] (k23 (x4 + 4) S9)) (S : cr_S) : cr_P Γ E 9 Φ (2 * j + 300) (12 * j + 20000) S 624 ([(0, .ref b), (1, .ref (E.2.1 8 0)), (2, .ref (E.2.1 9 0)), (3, .ref (E.2.1 10 0)), (4, .int x4)]) [] (s_L_law_624 xs L k23 x4 S) := by
  have hEK := X.2.2.2.2.2.2.1
  unfold s_L_law_624
  refine cr_aload_n X 1 rfl dL_law_624 ?_
  refine cr_aload_n X 0 rfl dL_law_625 ?_
  refine cr_iload X 4 rfl dL_law_626 ?_
  refine cr_iconst X (1 : Int32) (by decide) dL_law_628 ?_
  refine cr_iadd X dL_law_629 ?_
  refine cr_sald X SC dL_law_630 ?_
  refine cr_aload_n X 3 rfl dL_law_631 ?_
  refine cr_callSc X NC (As := [.ref (E.2.1 8 0), .int ((xs ((x4 + (1 : Int32))).toNatClampNeg)), .ref (E.2.1 10 0)]) (rest := []) 2 12 (c_L_pass Γ.2.1 Yl E hEK S ((xs ((x4 + (1 : Int32))).toNatClampNeg))) 3 gL_law_L_pass rfl rfl rfl (by decide +kernel) ⟨Nat.le_of_ble_eq_true rfl, Nat.le_of_ble_eq_true rfl⟩ ⟨show 2 * j + 300 + 2 ≤ 601024 by omega, show 12 * j + 20000 + 12 ≤ 7293034 by omega⟩ rfl rfl (Nat.le_of_ble_eq_true rfl) dL_law_632 (fun r632_43 => ?_)
  show cr_P Γ E 9 _ (2 * j + 300 + 2) (12 * j + 20000 + 12) r632_43.2 635 ([(0, .ref b), (1, .ref (E.2.1 8 0)), (2, .ref (E.2.1 9 0)), (3, .ref (E.2.1 10 0)), (4, .int x4)]) ([.int r632_43.1]) _
  refine cr_istore X ([(5, .int r632_43.1), (0, .ref b), (1, .ref (E.2.1 8 0)), (2, .ref (E.2.1 9 0)), (3, .ref (E.2.1 10 0)), (4, .int x4)]) rfl (by decide) dL_law_635 ?_
  refine cr_aload_n X 3 rfl dL_law_637 ?_
  refine cr_aload_n X 1 rfl dL_law_638 ?_
  refine cr_iload X 5 rfl dL_law_639 ?_
  refine cr_iconst X (1 : Int32) (by decide) dL_law_641 ?_
  refine cr_iadd X dL_law_642 ?_
  refine cr_sald X SC dL_law_643 ?_
  refine cr_callV X (As := [.int ((xs ((x4 + (1 : Int32))).toNatClampNeg))]) (rest := []) (c_X9_pass_S Γ.2.1 E hEK r632_43.2 ((xs ((x4 + (1 : Int32))).toNatClampNeg))) ((cr_m0 E).at rfl rfl) rfl 1 gL_law_X9_pass rfl rfl rfl (by decide +kernel) ⟨Nat.le_of_ble_eq_true rfl, Nat.le_of_ble_eq_true rfl⟩ ⟨show 2 * j + 300 + 2 ≤ 601024 by omega, show 12 * j + 20000 + 12 ≤ 7293034 by omega⟩ rfl rfl (Nat.le_of_ble_eq_true rfl) dL_law_644 (fun r644_44 => ?_)
  show cr_P Γ E 9 _ (2 * j + 300 + 2) (12 * j + 20000 + 12) (cr_us r632_43.2 9 r644_44.2) 647 ([(5, .int r632_43.1), (0, .ref b), (1, .ref (E.2.1 8 0)), (2, .ref (E.2.1 9 0)), (3, .ref (E.2.1 10 0)), (4, .int x4)]) ([.int r644_44.1]) _
  refine cr_bds (fun S644_45 => ?_)
  refine cr_istore X ([(6, .int r644_44.1), (5, .int r632_43.1), (0, .ref b), (1, .ref (E.2.1 8 0)), (2, .ref (E.2.1 9 0)), (3, .ref (E.2.1 10 0)), (4, .int x4)]) rfl (by decide) dL_law_647 ?_
  refine cr_aload_n X 4 rfl dL_law_649 ?_
  refine cr_callV X (As := []) (rest := []) (c_X9_thrown_S Γ.2.1 E hEK S644_45) ((cr_m0 E).at rfl rfl) rfl 0 gL_law_X9_thrown rfl rfl rfl (by decide +kernel) ⟨Nat.le_of_ble_eq_true rfl, Nat.le_of_ble_eq_true rfl⟩ ⟨show 2 * j + 300 + 2 ≤ 601024 by omega, show 12 * j + 20000 + 12 ≤ 7293034 by omega⟩ rfl rfl (Nat.le_of_ble_eq_true rfl) dL_law_650 (fun r650_46 => ?_)
  show cr_P Γ E 9 _ (2 * j + 300 + 2) (12 * j + 20000 + 12) S644_45 653 ([(6, .int r644_44.1), (5, .int r632_43.1), (0, .ref b), (1, .ref (E.2.1 8 0)), (2, .ref (E.2.1 9 0)), (3, .ref (E.2.1 10 0)), (4, .int x4)]) ([.int r650_46]) _
  refine cr_iload X 1 rfl dL_law_653 ?_
  refine cr_icmp_eq X 660 dL_law_655 rfl ?_ ?_
  · refine cr_iload X 1 rfl dL_law_660 ?_
    refine cr_if_ne X 677 dL_law_662 rfl ?_ ?_
    · refine cr_goto X 1550 dL_law_677 rfl ?_
      refine cr_iinc0 X (x4 + 4) ([(4, .int ((x4 + 4))), (6, .int r644_44.1), (5, .int r632_43.1), (0, .ref b), (1, .ref (E.2.1 8 0)), (2, .ref (E.2.1 9 0)), (3, .ref (E.2.1 10 0))]) 6 rfl rfl rfl (by decide) dL_law_1550 ?_
      refine cr_goto X 23 dL_law_1553 rfl ?_
      refine cr_widen (2 * j + 300 + 2) (12 * j + 20000 + 12) (by omega) (by omega) ?_
      refine cr_sub (lv' := [(0, .ref b), (1, .ref (E.2.1 8 0)), (2, .ref (E.2.1 9 0)), (3, .ref (E.2.1 10 0)), (4, .int ((x4 + 4)))]) [3, 4, 5, 6, 0] rfl ?_
      exact hk23 S644_45
    · refine cr_aload_n X 5 rfl dL_law_665 ?_
      refine cr_iconst X (0 : Int32) (by decide) dL_law_666 ?_
      refine cr_lald X ((cr_o0 E).at rfl rfl) dL_law_667 ?_
      refine cr_iload X 0 rfl dL_law_668 ?_
      refine cr_i2l X dL_law_670 ?_
      refine cr_lcmp X dL_law_671 ?_
      refine cr_if_eq X 677 dL_law_672 rfl ?_ ?_
      · refine cr_goto X 1550 dL_law_677 rfl ?_
        refine cr_iinc0 X (x4 + 4) ([(4, .int ((x4 + 4))), (6, .int r644_44.1), (5, .int r632_43.1), (0, .ref b), (1, .ref (E.2.1 8 0)), (2, .ref (E.2.1 9 0)), (3, .ref (E.2.1 10 0))]) 6 rfl rfl rfl (by decide) dL_law_1550 ?_
        refine cr_goto X 23 dL_law_1553 rfl ?_
        refine cr_widen (2 * j + 300 + 2) (12 * j + 20000 + 12) (by omega) (by omega) ?_
        refine cr_sub (lv' := [(0, .ref b), (1, .ref (E.2.1 8 0)), (2, .ref (E.2.1 9 0)), (3, .ref (E.2.1 10 0)), (4, .int ((x4 + 4)))]) [3, 4, 5, 6, 0] rfl ?_
        exact hk23 S644_45
      · refine cr_iconst X (0 : Int32) (by decide) dL_law_675 ?_
        exact cr_none
  · refine cr_iconst X (0 : Int32) (by decide) dL_law_658 ?_
    exact cr_none
set_option maxHeartbeats 4000000 in
set_option maxRecDepth 100000 in
theorem b_L_law_680 {Γ : cr_C} {E : cr_E} (X : cr_X Γ E cL_law 9 RL wsL_law room_1 (some .boolean)) (Yl : Γ.2.1.stackTraces = false) (NC : cr_NC Γ.2.2.2.2.1) {b L : Nat} {xs : Nat → Int32} (SC : va_X b L xs Γ.2.2.2.2.1 Γ.2.2.2.2.1.heap ∧ b < Γ.2.2.2.2.1.heap.size ∧ ¬ E.2.2.1 b) {Φ : Unit → (State → Prop) → Prop} (j : Nat) (hj : j ≤ 511) (x4 : Int32) (k23 : Int32 → cr_S → Option Unit) (hk23 : ∀ S9, cr_P Γ E 9 Φ (2 * j + 300 + 2) (12 * j + 20000 + 12) S9 23 [(0, .ref b), (1, .ref (E.2.1 8 0)), (2, .ref (E.2.1 9 0)), (3, .ref (E.2.1 10 0)), (4, .int (x4 + 4))] [] (k23 (x4 + 4) S9)) (S : cr_S) : cr_P Γ E 9 Φ (2 * j + 300) (12 * j + 20000) S 680 ([(0, .ref b), (1, .ref (E.2.1 8 0)), (2, .ref (E.2.1 9 0)), (3, .ref (E.2.1 10 0)), (4, .int x4)]) [] (s_L_law_680 xs L k23 x4 S) := by
  have hEK := X.2.2.2.2.2.2.1
  unfold s_L_law_680
  refine cr_aload_n X 1 rfl dL_law_680 ?_
  refine cr_aload_n X 0 rfl dL_law_681 ?_
  refine cr_iload X 4 rfl dL_law_682 ?_
  refine cr_iconst X (1 : Int32) (by decide) dL_law_684 ?_
  refine cr_iadd X dL_law_685 ?_
  refine cr_sald X SC dL_law_686 ?_
  refine cr_aload_n X 3 rfl dL_law_687 ?_
  refine cr_callSc X NC (As := [.ref (E.2.1 8 0), .int ((xs ((x4 + (1 : Int32))).toNatClampNeg)), .ref (E.2.1 10 0)]) (rest := []) 2 12 (c_L_append Γ.2.1 Yl E hEK S ((xs ((x4 + (1 : Int32))).toNatClampNeg))) 3 gL_law_L_append rfl rfl rfl (by decide +kernel) ⟨Nat.le_of_ble_eq_true rfl, Nat.le_of_ble_eq_true rfl⟩ ⟨show 2 * j + 300 + 2 ≤ 601024 by omega, show 12 * j + 20000 + 12 ≤ 7293034 by omega⟩ rfl rfl (Nat.le_of_ble_eq_true rfl) dL_law_688 (fun r688_49 => ?_)
  show cr_P Γ E 9 _ (2 * j + 300 + 2) (12 * j + 20000 + 12) r688_49.2 691 ([(0, .ref b), (1, .ref (E.2.1 8 0)), (2, .ref (E.2.1 9 0)), (3, .ref (E.2.1 10 0)), (4, .int x4)]) ([.int r688_49.1]) _
  refine cr_istore X ([(5, .int r688_49.1), (0, .ref b), (1, .ref (E.2.1 8 0)), (2, .ref (E.2.1 9 0)), (3, .ref (E.2.1 10 0)), (4, .int x4)]) rfl (by decide) dL_law_691 ?_
  refine cr_aload_n X 3 rfl dL_law_693 ?_
  refine cr_aload_n X 1 rfl dL_law_694 ?_
  refine cr_iload X 5 rfl dL_law_695 ?_
  refine cr_iconst X (1 : Int32) (by decide) dL_law_697 ?_
  refine cr_iadd X dL_law_698 ?_
  refine cr_sald X SC dL_law_699 ?_
  refine cr_callV X (As := [.int ((xs ((x4 + (1 : Int32))).toNatClampNeg))]) (rest := []) (c_X9_append_S Γ.2.1 E hEK r688_49.2 ((xs ((x4 + (1 : Int32))).toNatClampNeg))) ((cr_m0 E).at rfl rfl) rfl 1 gL_law_X9_append rfl rfl rfl (by decide +kernel) ⟨Nat.le_of_ble_eq_true rfl, Nat.le_of_ble_eq_true rfl⟩ ⟨show 2 * j + 300 + 2 ≤ 601024 by omega, show 12 * j + 20000 + 12 ≤ 7293034 by omega⟩ rfl rfl (Nat.le_of_ble_eq_true rfl) dL_law_700 (fun r700_50 => ?_)
  show cr_P Γ E 9 _ (2 * j + 300 + 2) (12 * j + 20000 + 12) (cr_us r688_49.2 9 r700_50.2) 703 ([(5, .int r688_49.1), (0, .ref b), (1, .ref (E.2.1 8 0)), (2, .ref (E.2.1 9 0)), (3, .ref (E.2.1 10 0)), (4, .int x4)]) ([.int r700_50.1]) _
  refine cr_bds (fun S700_51 => ?_)
  refine cr_istore X ([(6, .int r700_50.1), (5, .int r688_49.1), (0, .ref b), (1, .ref (E.2.1 8 0)), (2, .ref (E.2.1 9 0)), (3, .ref (E.2.1 10 0)), (4, .int x4)]) rfl (by decide) dL_law_703 ?_
  refine cr_aload_n X 4 rfl dL_law_705 ?_
  refine cr_callV X (As := []) (rest := []) (c_X9_thrown_S Γ.2.1 E hEK S700_51) ((cr_m0 E).at rfl rfl) rfl 0 gL_law_X9_thrown rfl rfl rfl (by decide +kernel) ⟨Nat.le_of_ble_eq_true rfl, Nat.le_of_ble_eq_true rfl⟩ ⟨show 2 * j + 300 + 2 ≤ 601024 by omega, show 12 * j + 20000 + 12 ≤ 7293034 by omega⟩ rfl rfl (Nat.le_of_ble_eq_true rfl) dL_law_706 (fun r706_52 => ?_)
  show cr_P Γ E 9 _ (2 * j + 300 + 2) (12 * j + 20000 + 12) S700_51 709 ([(6, .int r700_50.1), (5, .int r688_49.1), (0, .ref b), (1, .ref (E.2.1 8 0)), (2, .ref (E.2.1 9 0)), (3, .ref (E.2.1 10 0)), (4, .int x4)]) ([.int r706_52]) _
  refine cr_iload X 1 rfl dL_law_709 ?_
  refine cr_icmp_eq X 716 dL_law_711 rfl ?_ ?_
  · refine cr_iload X 1 rfl dL_law_716 ?_
    refine cr_if_ne X 733 dL_law_718 rfl ?_ ?_
    · refine cr_goto X 1550 dL_law_733 rfl ?_
      refine cr_iinc0 X (x4 + 4) ([(4, .int ((x4 + 4))), (6, .int r700_50.1), (5, .int r688_49.1), (0, .ref b), (1, .ref (E.2.1 8 0)), (2, .ref (E.2.1 9 0)), (3, .ref (E.2.1 10 0))]) 6 rfl rfl rfl (by decide) dL_law_1550 ?_
      refine cr_goto X 23 dL_law_1553 rfl ?_
      refine cr_widen (2 * j + 300 + 2) (12 * j + 20000 + 12) (by omega) (by omega) ?_
      refine cr_sub (lv' := [(0, .ref b), (1, .ref (E.2.1 8 0)), (2, .ref (E.2.1 9 0)), (3, .ref (E.2.1 10 0)), (4, .int ((x4 + 4)))]) [3, 4, 5, 6, 0] rfl ?_
      exact hk23 S700_51
    · refine cr_aload_n X 5 rfl dL_law_721 ?_
      refine cr_iconst X (0 : Int32) (by decide) dL_law_722 ?_
      refine cr_lald X ((cr_o0 E).at rfl rfl) dL_law_723 ?_
      refine cr_iload X 0 rfl dL_law_724 ?_
      refine cr_i2l X dL_law_726 ?_
      refine cr_lcmp X dL_law_727 ?_
      refine cr_if_eq X 733 dL_law_728 rfl ?_ ?_
      · refine cr_goto X 1550 dL_law_733 rfl ?_
        refine cr_iinc0 X (x4 + 4) ([(4, .int ((x4 + 4))), (6, .int r700_50.1), (5, .int r688_49.1), (0, .ref b), (1, .ref (E.2.1 8 0)), (2, .ref (E.2.1 9 0)), (3, .ref (E.2.1 10 0))]) 6 rfl rfl rfl (by decide) dL_law_1550 ?_
        refine cr_goto X 23 dL_law_1553 rfl ?_
        refine cr_widen (2 * j + 300 + 2) (12 * j + 20000 + 12) (by omega) (by omega) ?_
        refine cr_sub (lv' := [(0, .ref b), (1, .ref (E.2.1 8 0)), (2, .ref (E.2.1 9 0)), (3, .ref (E.2.1 10 0)), (4, .int ((x4 + 4)))]) [3, 4, 5, 6, 0] rfl ?_
        exact hk23 S700_51
      · refine cr_iconst X (0 : Int32) (by decide) dL_law_731 ?_
        exact cr_none
  · refine cr_iconst X (0 : Int32) (by decide) dL_law_714 ?_
    exact cr_none
set_option maxHeartbeats 4000000 in
set_option maxRecDepth 100000 in
theorem b_L_law_736 {Γ : cr_C} {E : cr_E} (X : cr_X Γ E cL_law 9 RL wsL_law room_1 (some .boolean)) (Yl : Γ.2.1.stackTraces = false) (NC : cr_NC Γ.2.2.2.2.1) {b L : Nat} {xs : Nat → Int32} (SC : va_X b L xs Γ.2.2.2.2.1 Γ.2.2.2.2.1.heap ∧ b < Γ.2.2.2.2.1.heap.size ∧ ¬ E.2.2.1 b) {Φ : Unit → (State → Prop) → Prop} (j : Nat) (hj : j ≤ 511) (x4 : Int32) (k23 : Int32 → cr_S → Option Unit) (hk23 : ∀ S9, cr_P Γ E 9 Φ (2 * j + 300 + 2) (12 * j + 20000 + 12) S9 23 [(0, .ref b), (1, .ref (E.2.1 8 0)), (2, .ref (E.2.1 9 0)), (3, .ref (E.2.1 10 0)), (4, .int (x4 + 4))] [] (k23 (x4 + 4) S9)) (S : cr_S) : cr_P Γ E 9 Φ (2 * j + 300) (12 * j + 20000) S 736 ([(0, .ref b), (1, .ref (E.2.1 8 0)), (2, .ref (E.2.1 9 0)), (3, .ref (E.2.1 10 0)), (4, .int x4)]) [] (s_L_law_736 xs L k23 x4 S) := by
  have hEK := X.2.2.2.2.2.2.1
  unfold s_L_law_736
  refine cr_aload_n X 1 rfl dL_law_736 ?_
  refine cr_callV X (As := []) (rest := []) (c_X8_clearBuffer Γ.2.1 E hEK S) ((cr_b0 E).at rfl rfl) rfl 0 gL_law_X8_clearBuffer rfl rfl rfl (by decide +kernel) ⟨Nat.le_of_ble_eq_true rfl, Nat.le_of_ble_eq_true rfl⟩ ⟨show 2 * j + 300 ≤ 601024 by omega, show 12 * j + 20000 ≤ 7293034 by omega⟩ rfl rfl (Nat.le_of_ble_eq_true rfl) dL_law_737 (fun r737_55 => ?_)
  show cr_P Γ E 9 _ (2 * j + 300) (12 * j + 20000) r737_55.2 740 ([(0, .ref b), (1, .ref (E.2.1 8 0)), (2, .ref (E.2.1 9 0)), (3, .ref (E.2.1 10 0)), (4, .int x4)]) ([.int r737_55.1]) _
  refine cr_aload_n X 2 rfl dL_law_740 ?_
  refine cr_callV X (As := []) (rest := [.int r737_55.1]) (c_X9_clearBuffer_S Γ.2.1 E hEK r737_55.2) ((cr_m0 E).at rfl rfl) rfl 0 gL_law_X9_clearBuffer rfl rfl rfl (by decide +kernel) ⟨Nat.le_of_ble_eq_true rfl, Nat.le_of_ble_eq_true rfl⟩ ⟨show 2 * j + 300 ≤ 601024 by omega, show 12 * j + 20000 ≤ 7293034 by omega⟩ rfl rfl (Nat.le_of_ble_eq_true rfl) dL_law_741 (fun r741_56 => ?_)
  show cr_P Γ E 9 _ (2 * j + 300) (12 * j + 20000) (cr_us r737_55.2 9 r741_56.2) 744 ([(0, .ref b), (1, .ref (E.2.1 8 0)), (2, .ref (E.2.1 9 0)), (3, .ref (E.2.1 10 0)), (4, .int x4)]) ([.int r741_56.1, .int r737_55.1]) _
  refine cr_bds (fun S741_57 => ?_)
  refine cr_icmp_eq X 1550 dL_law_744 rfl ?_ ?_
  · refine cr_iinc0 X (x4 + 4) ([(4, .int ((x4 + 4))), (0, .ref b), (1, .ref (E.2.1 8 0)), (2, .ref (E.2.1 9 0)), (3, .ref (E.2.1 10 0))]) 4 rfl rfl rfl (by decide) dL_law_1550 ?_
    refine cr_goto X 23 dL_law_1553 rfl ?_
    refine cr_widen (2 * j + 300 + 2) (12 * j + 20000 + 12) (by omega) (by omega) ?_
    refine cr_sub (lv' := [(0, .ref b), (1, .ref (E.2.1 8 0)), (2, .ref (E.2.1 9 0)), (3, .ref (E.2.1 10 0)), (4, .int ((x4 + 4)))]) [1, 2, 3, 4, 0] rfl ?_
    exact hk23 S741_57
  · refine cr_iconst X (0 : Int32) (by decide) dL_law_747 ?_
    exact cr_none
set_option maxHeartbeats 4000000 in
set_option maxRecDepth 100000 in
theorem b_L_law_749 {Γ : cr_C} {E : cr_E} (X : cr_X Γ E cL_law 9 RL wsL_law room_1 (some .boolean)) (Yl : Γ.2.1.stackTraces = false) (NC : cr_NC Γ.2.2.2.2.1) {b L : Nat} {xs : Nat → Int32} (SC : va_X b L xs Γ.2.2.2.2.1 Γ.2.2.2.2.1.heap ∧ b < Γ.2.2.2.2.1.heap.size ∧ ¬ E.2.2.1 b) {Φ : Unit → (State → Prop) → Prop} (j : Nat) (hj : j ≤ 511) (x4 : Int32) (k23 : Int32 → cr_S → Option Unit) (hk23 : ∀ S9, cr_P Γ E 9 Φ (2 * j + 300 + 2) (12 * j + 20000 + 12) S9 23 [(0, .ref b), (1, .ref (E.2.1 8 0)), (2, .ref (E.2.1 9 0)), (3, .ref (E.2.1 10 0)), (4, .int (x4 + 4))] [] (k23 (x4 + 4) S9)) (S : cr_S) : cr_P Γ E 9 Φ (2 * j + 300) (12 * j + 20000) S 749 ([(0, .ref b), (1, .ref (E.2.1 8 0)), (2, .ref (E.2.1 9 0)), (3, .ref (E.2.1 10 0)), (4, .int x4)]) [] (s_L_law_749 xs L k23 x4 S) := by
  have hEK := X.2.2.2.2.2.2.1
  unfold s_L_law_749
  refine cr_aload_n X 1 rfl dL_law_749 ?_
  refine cr_callV X (As := []) (rest := []) (c_X8_firstError Γ.2.1 E hEK S) ((cr_b0 E).at rfl rfl) rfl 0 gL_law_X8_firstError rfl rfl rfl (by decide +kernel) ⟨Nat.le_of_ble_eq_true rfl, Nat.le_of_ble_eq_true rfl⟩ ⟨show 2 * j + 300 ≤ 601024 by omega, show 12 * j + 20000 ≤ 7293034 by omega⟩ rfl rfl (Nat.le_of_ble_eq_true rfl) dL_law_750 (fun r750_59 => ?_)
  show cr_P Γ E 9 _ (2 * j + 300) (12 * j + 20000) S 753 ([(0, .ref b), (1, .ref (E.2.1 8 0)), (2, .ref (E.2.1 9 0)), (3, .ref (E.2.1 10 0)), (4, .int x4)]) ([.int r750_59]) _
  refine cr_aload_n X 2 rfl dL_law_753 ?_
  refine cr_callV X (As := []) (rest := [.int r750_59]) (c_X9_firstError_S Γ.2.1 E hEK S) ((cr_m0 E).at rfl rfl) rfl 0 gL_law_X9_firstError rfl rfl rfl (by decide +kernel) ⟨Nat.le_of_ble_eq_true rfl, Nat.le_of_ble_eq_true rfl⟩ ⟨show 2 * j + 300 ≤ 601024 by omega, show 12 * j + 20000 ≤ 7293034 by omega⟩ rfl rfl (Nat.le_of_ble_eq_true rfl) dL_law_754 (fun r754_60 => ?_)
  show cr_P Γ E 9 _ (2 * j + 300) (12 * j + 20000) (cr_us S 9 r754_60.2) 757 ([(0, .ref b), (1, .ref (E.2.1 8 0)), (2, .ref (E.2.1 9 0)), (3, .ref (E.2.1 10 0)), (4, .int x4)]) ([.int r754_60.1, .int r750_59]) _
  refine cr_bds (fun S754_61 => ?_)
  refine cr_icmp_eq X 1550 dL_law_757 rfl ?_ ?_
  · refine cr_iinc0 X (x4 + 4) ([(4, .int ((x4 + 4))), (0, .ref b), (1, .ref (E.2.1 8 0)), (2, .ref (E.2.1 9 0)), (3, .ref (E.2.1 10 0))]) 4 rfl rfl rfl (by decide) dL_law_1550 ?_
    refine cr_goto X 23 dL_law_1553 rfl ?_
    refine cr_widen (2 * j + 300 + 2) (12 * j + 20000 + 12) (by omega) (by omega) ?_
    refine cr_sub (lv' := [(0, .ref b), (1, .ref (E.2.1 8 0)), (2, .ref (E.2.1 9 0)), (3, .ref (E.2.1 10 0)), (4, .int ((x4 + 4)))]) [1, 2, 3, 4, 0] rfl ?_
    exact hk23 S754_61
  · refine cr_iconst X (0 : Int32) (by decide) dL_law_760 ?_
    exact cr_none
set_option maxHeartbeats 4000000 in
set_option maxRecDepth 100000 in
theorem b_L_law_762 {Γ : cr_C} {E : cr_E} (X : cr_X Γ E cL_law 9 RL wsL_law room_1 (some .boolean)) (Yl : Γ.2.1.stackTraces = false) (NC : cr_NC Γ.2.2.2.2.1) {b L : Nat} {xs : Nat → Int32} (SC : va_X b L xs Γ.2.2.2.2.1 Γ.2.2.2.2.1.heap ∧ b < Γ.2.2.2.2.1.heap.size ∧ ¬ E.2.2.1 b) {Φ : Unit → (State → Prop) → Prop} (j : Nat) (hj : j ≤ 511) (x4 : Int32) (k23 : Int32 → cr_S → Option Unit) (hk23 : ∀ S9, cr_P Γ E 9 Φ (2 * j + 300 + 2) (12 * j + 20000 + 12) S9 23 [(0, .ref b), (1, .ref (E.2.1 8 0)), (2, .ref (E.2.1 9 0)), (3, .ref (E.2.1 10 0)), (4, .int (x4 + 4))] [] (k23 (x4 + 4) S9)) (S : cr_S) : cr_P Γ E 9 Φ (2 * j + 300) (12 * j + 20000) S 762 ([(0, .ref b), (1, .ref (E.2.1 8 0)), (2, .ref (E.2.1 9 0)), (3, .ref (E.2.1 10 0)), (4, .int x4)]) [] (s_L_law_762 xs L k23 x4 S) := by
  have hEK := X.2.2.2.2.2.2.1
  unfold s_L_law_762
  refine cr_aload_n X 1 rfl dL_law_762 ?_
  refine cr_aload_n X 3 rfl dL_law_763 ?_
  refine cr_callSc X NC (As := [.ref (E.2.1 8 0), .ref (E.2.1 10 0)]) (rest := []) 2 12 (c_L_load Γ.2.1 Yl E hEK S) 2 gL_law_L_load rfl rfl rfl (by decide +kernel) ⟨Nat.le_of_ble_eq_true rfl, Nat.le_of_ble_eq_true rfl⟩ ⟨show 2 * j + 300 + 2 ≤ 601024 by omega, show 12 * j + 20000 + 12 ≤ 7293034 by omega⟩ rfl rfl (Nat.le_of_ble_eq_true rfl) dL_law_764 (fun r764_63 => ?_)
  show cr_P Γ E 9 _ (2 * j + 300 + 2) (12 * j + 20000 + 12) r764_63.2 767 ([(0, .ref b), (1, .ref (E.2.1 8 0)), (2, .ref (E.2.1 9 0)), (3, .ref (E.2.1 10 0)), (4, .int x4)]) ([.int r764_63.1]) _
  refine cr_istore X ([(5, .int r764_63.1), (0, .ref b), (1, .ref (E.2.1 8 0)), (2, .ref (E.2.1 9 0)), (3, .ref (E.2.1 10 0)), (4, .int x4)]) rfl (by decide) dL_law_767 ?_
  refine cr_aload_n X 3 rfl dL_law_769 ?_
  refine cr_callV X (As := []) (rest := []) (c_X9_load_S Γ.2.1 E hEK r764_63.2) ((cr_m0 E).at rfl rfl) rfl 0 gL_law_X9_load rfl rfl rfl (by decide +kernel) ⟨Nat.le_of_ble_eq_true rfl, Nat.le_of_ble_eq_true rfl⟩ ⟨show 2 * j + 300 + 2 ≤ 601024 by omega, show 12 * j + 20000 + 12 ≤ 7293034 by omega⟩ rfl rfl (Nat.le_of_ble_eq_true rfl) dL_law_770 (fun r770_64 => ?_)
  show cr_P Γ E 9 _ (2 * j + 300 + 2) (12 * j + 20000 + 12) (cr_us r764_63.2 9 r770_64.2) 773 ([(5, .int r764_63.1), (0, .ref b), (1, .ref (E.2.1 8 0)), (2, .ref (E.2.1 9 0)), (3, .ref (E.2.1 10 0)), (4, .int x4)]) ([.int r770_64.1]) _
  refine cr_bds (fun S770_65 => ?_)
  refine cr_istore X ([(6, .int r770_64.1), (5, .int r764_63.1), (0, .ref b), (1, .ref (E.2.1 8 0)), (2, .ref (E.2.1 9 0)), (3, .ref (E.2.1 10 0)), (4, .int x4)]) rfl (by decide) dL_law_773 ?_
  refine cr_aload_n X 4 rfl dL_law_775 ?_
  refine cr_callV X (As := []) (rest := []) (c_X9_thrown_S Γ.2.1 E hEK S770_65) ((cr_m0 E).at rfl rfl) rfl 0 gL_law_X9_thrown rfl rfl rfl (by decide +kernel) ⟨Nat.le_of_ble_eq_true rfl, Nat.le_of_ble_eq_true rfl⟩ ⟨show 2 * j + 300 + 2 ≤ 601024 by omega, show 12 * j + 20000 + 12 ≤ 7293034 by omega⟩ rfl rfl (Nat.le_of_ble_eq_true rfl) dL_law_776 (fun r776_66 => ?_)
  show cr_P Γ E 9 _ (2 * j + 300 + 2) (12 * j + 20000 + 12) S770_65 779 ([(6, .int r770_64.1), (5, .int r764_63.1), (0, .ref b), (1, .ref (E.2.1 8 0)), (2, .ref (E.2.1 9 0)), (3, .ref (E.2.1 10 0)), (4, .int x4)]) ([.int r776_66]) _
  refine cr_iload X 1 rfl dL_law_779 ?_
  refine cr_icmp_eq X 786 dL_law_781 rfl ?_ ?_
  · refine cr_iload X 1 rfl dL_law_786 ?_
    refine cr_if_ne X 803 dL_law_788 rfl ?_ ?_
    · refine cr_goto X 1550 dL_law_803 rfl ?_
      refine cr_iinc0 X (x4 + 4) ([(4, .int ((x4 + 4))), (6, .int r770_64.1), (5, .int r764_63.1), (0, .ref b), (1, .ref (E.2.1 8 0)), (2, .ref (E.2.1 9 0)), (3, .ref (E.2.1 10 0))]) 6 rfl rfl rfl (by decide) dL_law_1550 ?_
      refine cr_goto X 23 dL_law_1553 rfl ?_
      refine cr_widen (2 * j + 300 + 2) (12 * j + 20000 + 12) (by omega) (by omega) ?_
      refine cr_sub (lv' := [(0, .ref b), (1, .ref (E.2.1 8 0)), (2, .ref (E.2.1 9 0)), (3, .ref (E.2.1 10 0)), (4, .int ((x4 + 4)))]) [3, 4, 5, 6, 0] rfl ?_
      exact hk23 S770_65
    · refine cr_aload_n X 5 rfl dL_law_791 ?_
      refine cr_iconst X (0 : Int32) (by decide) dL_law_792 ?_
      refine cr_lald X ((cr_o0 E).at rfl rfl) dL_law_793 ?_
      refine cr_iload X 0 rfl dL_law_794 ?_
      refine cr_i2l X dL_law_796 ?_
      refine cr_lcmp X dL_law_797 ?_
      refine cr_if_eq X 803 dL_law_798 rfl ?_ ?_
      · refine cr_goto X 1550 dL_law_803 rfl ?_
        refine cr_iinc0 X (x4 + 4) ([(4, .int ((x4 + 4))), (6, .int r770_64.1), (5, .int r764_63.1), (0, .ref b), (1, .ref (E.2.1 8 0)), (2, .ref (E.2.1 9 0)), (3, .ref (E.2.1 10 0))]) 6 rfl rfl rfl (by decide) dL_law_1550 ?_
        refine cr_goto X 23 dL_law_1553 rfl ?_
        refine cr_widen (2 * j + 300 + 2) (12 * j + 20000 + 12) (by omega) (by omega) ?_
        refine cr_sub (lv' := [(0, .ref b), (1, .ref (E.2.1 8 0)), (2, .ref (E.2.1 9 0)), (3, .ref (E.2.1 10 0)), (4, .int ((x4 + 4)))]) [3, 4, 5, 6, 0] rfl ?_
        exact hk23 S770_65
      · refine cr_iconst X (0 : Int32) (by decide) dL_law_801 ?_
        exact cr_none
  · refine cr_iconst X (0 : Int32) (by decide) dL_law_784 ?_
    exact cr_none
set_option maxHeartbeats 4000000 in
set_option maxRecDepth 100000 in
theorem b_L_law_806 {Γ : cr_C} {E : cr_E} (X : cr_X Γ E cL_law 9 RL wsL_law room_1 (some .boolean)) (Yl : Γ.2.1.stackTraces = false) (NC : cr_NC Γ.2.2.2.2.1) {b L : Nat} {xs : Nat → Int32} (SC : va_X b L xs Γ.2.2.2.2.1 Γ.2.2.2.2.1.heap ∧ b < Γ.2.2.2.2.1.heap.size ∧ ¬ E.2.2.1 b) {Φ : Unit → (State → Prop) → Prop} (j : Nat) (hj : j ≤ 511) (x4 : Int32) (k23 : Int32 → cr_S → Option Unit) (hk23 : ∀ S9, cr_P Γ E 9 Φ (2 * j + 300 + 2) (12 * j + 20000 + 12) S9 23 [(0, .ref b), (1, .ref (E.2.1 8 0)), (2, .ref (E.2.1 9 0)), (3, .ref (E.2.1 10 0)), (4, .int (x4 + 4))] [] (k23 (x4 + 4) S9)) (S : cr_S) : cr_P Γ E 9 Φ (2 * j + 300) (12 * j + 20000) S 806 ([(0, .ref b), (1, .ref (E.2.1 8 0)), (2, .ref (E.2.1 9 0)), (3, .ref (E.2.1 10 0)), (4, .int x4)]) [] (s_L_law_806 xs L k23 x4 S) := by
  have hEK := X.2.2.2.2.2.2.1
  unfold s_L_law_806
  refine cr_aload_n X 1 rfl dL_law_806 ?_
  refine cr_aload_n X 3 rfl dL_law_807 ?_
  refine cr_callSc X NC (As := [.ref (E.2.1 8 0), .ref (E.2.1 10 0)]) (rest := []) 2 12 (c_L_undo Γ.2.1 Yl E hEK S) 2 gL_law_L_undo rfl rfl rfl (by decide +kernel) ⟨Nat.le_of_ble_eq_true rfl, Nat.le_of_ble_eq_true rfl⟩ ⟨show 2 * j + 300 + 2 ≤ 601024 by omega, show 12 * j + 20000 + 12 ≤ 7293034 by omega⟩ rfl rfl (Nat.le_of_ble_eq_true rfl) dL_law_808 (fun r808_69 => ?_)
  show cr_P Γ E 9 _ (2 * j + 300 + 2) (12 * j + 20000 + 12) r808_69.2 811 ([(0, .ref b), (1, .ref (E.2.1 8 0)), (2, .ref (E.2.1 9 0)), (3, .ref (E.2.1 10 0)), (4, .int x4)]) ([.int r808_69.1]) _
  refine cr_istore X ([(5, .int r808_69.1), (0, .ref b), (1, .ref (E.2.1 8 0)), (2, .ref (E.2.1 9 0)), (3, .ref (E.2.1 10 0)), (4, .int x4)]) rfl (by decide) dL_law_811 ?_
  refine cr_aload_n X 3 rfl dL_law_813 ?_
  refine cr_callV X (As := []) (rest := []) (c_X9_undo_S Γ.2.1 E hEK r808_69.2) ((cr_m0 E).at rfl rfl) rfl 0 gL_law_X9_undo rfl rfl rfl (by decide +kernel) ⟨Nat.le_of_ble_eq_true rfl, Nat.le_of_ble_eq_true rfl⟩ ⟨show 2 * j + 300 + 2 ≤ 601024 by omega, show 12 * j + 20000 + 12 ≤ 7293034 by omega⟩ rfl rfl (Nat.le_of_ble_eq_true rfl) dL_law_814 (fun r814_70 => ?_)
  show cr_P Γ E 9 _ (2 * j + 300 + 2) (12 * j + 20000 + 12) (cr_us r808_69.2 9 r814_70.2) 817 ([(5, .int r808_69.1), (0, .ref b), (1, .ref (E.2.1 8 0)), (2, .ref (E.2.1 9 0)), (3, .ref (E.2.1 10 0)), (4, .int x4)]) ([.int r814_70.1]) _
  refine cr_bds (fun S814_71 => ?_)
  refine cr_istore X ([(6, .int r814_70.1), (5, .int r808_69.1), (0, .ref b), (1, .ref (E.2.1 8 0)), (2, .ref (E.2.1 9 0)), (3, .ref (E.2.1 10 0)), (4, .int x4)]) rfl (by decide) dL_law_817 ?_
  refine cr_aload_n X 4 rfl dL_law_819 ?_
  refine cr_callV X (As := []) (rest := []) (c_X9_thrown_S Γ.2.1 E hEK S814_71) ((cr_m0 E).at rfl rfl) rfl 0 gL_law_X9_thrown rfl rfl rfl (by decide +kernel) ⟨Nat.le_of_ble_eq_true rfl, Nat.le_of_ble_eq_true rfl⟩ ⟨show 2 * j + 300 + 2 ≤ 601024 by omega, show 12 * j + 20000 + 12 ≤ 7293034 by omega⟩ rfl rfl (Nat.le_of_ble_eq_true rfl) dL_law_820 (fun r820_72 => ?_)
  show cr_P Γ E 9 _ (2 * j + 300 + 2) (12 * j + 20000 + 12) S814_71 823 ([(6, .int r814_70.1), (5, .int r808_69.1), (0, .ref b), (1, .ref (E.2.1 8 0)), (2, .ref (E.2.1 9 0)), (3, .ref (E.2.1 10 0)), (4, .int x4)]) ([.int r820_72]) _
  refine cr_iload X 1 rfl dL_law_823 ?_
  refine cr_icmp_eq X 830 dL_law_825 rfl ?_ ?_
  · refine cr_iload X 1 rfl dL_law_830 ?_
    refine cr_if_ne X 847 dL_law_832 rfl ?_ ?_
    · refine cr_goto X 1550 dL_law_847 rfl ?_
      refine cr_iinc0 X (x4 + 4) ([(4, .int ((x4 + 4))), (6, .int r814_70.1), (5, .int r808_69.1), (0, .ref b), (1, .ref (E.2.1 8 0)), (2, .ref (E.2.1 9 0)), (3, .ref (E.2.1 10 0))]) 6 rfl rfl rfl (by decide) dL_law_1550 ?_
      refine cr_goto X 23 dL_law_1553 rfl ?_
      refine cr_widen (2 * j + 300 + 2) (12 * j + 20000 + 12) (by omega) (by omega) ?_
      refine cr_sub (lv' := [(0, .ref b), (1, .ref (E.2.1 8 0)), (2, .ref (E.2.1 9 0)), (3, .ref (E.2.1 10 0)), (4, .int ((x4 + 4)))]) [3, 4, 5, 6, 0] rfl ?_
      exact hk23 S814_71
    · refine cr_aload_n X 5 rfl dL_law_835 ?_
      refine cr_iconst X (0 : Int32) (by decide) dL_law_836 ?_
      refine cr_lald X ((cr_o0 E).at rfl rfl) dL_law_837 ?_
      refine cr_iload X 0 rfl dL_law_838 ?_
      refine cr_i2l X dL_law_840 ?_
      refine cr_lcmp X dL_law_841 ?_
      refine cr_if_eq X 847 dL_law_842 rfl ?_ ?_
      · refine cr_goto X 1550 dL_law_847 rfl ?_
        refine cr_iinc0 X (x4 + 4) ([(4, .int ((x4 + 4))), (6, .int r814_70.1), (5, .int r808_69.1), (0, .ref b), (1, .ref (E.2.1 8 0)), (2, .ref (E.2.1 9 0)), (3, .ref (E.2.1 10 0))]) 6 rfl rfl rfl (by decide) dL_law_1550 ?_
        refine cr_goto X 23 dL_law_1553 rfl ?_
        refine cr_widen (2 * j + 300 + 2) (12 * j + 20000 + 12) (by omega) (by omega) ?_
        refine cr_sub (lv' := [(0, .ref b), (1, .ref (E.2.1 8 0)), (2, .ref (E.2.1 9 0)), (3, .ref (E.2.1 10 0)), (4, .int ((x4 + 4)))]) [3, 4, 5, 6, 0] rfl ?_
        exact hk23 S814_71
      · refine cr_iconst X (0 : Int32) (by decide) dL_law_845 ?_
        exact cr_none
  · refine cr_iconst X (0 : Int32) (by decide) dL_law_828 ?_
    exact cr_none
set_option maxHeartbeats 4000000 in
set_option maxRecDepth 100000 in
theorem b_L_law_850 {Γ : cr_C} {E : cr_E} (X : cr_X Γ E cL_law 9 RL wsL_law room_1 (some .boolean)) (Yl : Γ.2.1.stackTraces = false) (NC : cr_NC Γ.2.2.2.2.1) {b L : Nat} {xs : Nat → Int32} (SC : va_X b L xs Γ.2.2.2.2.1 Γ.2.2.2.2.1.heap ∧ b < Γ.2.2.2.2.1.heap.size ∧ ¬ E.2.2.1 b) {Φ : Unit → (State → Prop) → Prop} (j : Nat) (hj : j ≤ 511) (x4 : Int32) (k23 : Int32 → cr_S → Option Unit) (hk23 : ∀ S9, cr_P Γ E 9 Φ (2 * j + 300 + 2) (12 * j + 20000 + 12) S9 23 [(0, .ref b), (1, .ref (E.2.1 8 0)), (2, .ref (E.2.1 9 0)), (3, .ref (E.2.1 10 0)), (4, .int (x4 + 4))] [] (k23 (x4 + 4) S9)) (S : cr_S) : cr_P Γ E 9 Φ (2 * j + 300) (12 * j + 20000) S 850 ([(0, .ref b), (1, .ref (E.2.1 8 0)), (2, .ref (E.2.1 9 0)), (3, .ref (E.2.1 10 0)), (4, .int x4)]) [] (s_L_law_850 xs L k23 x4 S) := by
  have hEK := X.2.2.2.2.2.2.1
  unfold s_L_law_850
  refine cr_aload_n X 1 rfl dL_law_850 ?_
  refine cr_aload_n X 0 rfl dL_law_851 ?_
  refine cr_iload X 4 rfl dL_law_852 ?_
  refine cr_iconst X (1 : Int32) (by decide) dL_law_854 ?_
  refine cr_iadd X dL_law_855 ?_
  refine cr_sald X SC dL_law_856 ?_
  refine cr_aload_n X 0 rfl dL_law_857 ?_
  refine cr_iload X 4 rfl dL_law_858 ?_
  refine cr_iconst X (2 : Int32) (by decide) dL_law_860 ?_
  refine cr_iadd X dL_law_861 ?_
  refine cr_sald X SC dL_law_862 ?_
  refine cr_aload_n X 3 rfl dL_law_863 ?_
  refine cr_callSc X NC (As := [.ref (E.2.1 8 0), .int ((xs ((x4 + (1 : Int32))).toNatClampNeg)), .int ((xs ((x4 + (2 : Int32))).toNatClampNeg)), .ref (E.2.1 10 0)]) (rest := []) 2 12 (c_L_turbine Γ.2.1 Yl E hEK S ((xs ((x4 + (1 : Int32))).toNatClampNeg)) ((xs ((x4 + (2 : Int32))).toNatClampNeg))) 4 gL_law_L_turbine rfl rfl rfl (by decide +kernel) ⟨Nat.le_of_ble_eq_true rfl, Nat.le_of_ble_eq_true rfl⟩ ⟨show 2 * j + 300 + 2 ≤ 601024 by omega, show 12 * j + 20000 + 12 ≤ 7293034 by omega⟩ rfl rfl (Nat.le_of_ble_eq_true rfl) dL_law_864 (fun r864_75 => ?_)
  show cr_P Γ E 9 _ (2 * j + 300 + 2) (12 * j + 20000 + 12) r864_75.2 867 ([(0, .ref b), (1, .ref (E.2.1 8 0)), (2, .ref (E.2.1 9 0)), (3, .ref (E.2.1 10 0)), (4, .int x4)]) ([.int r864_75.1]) _
  refine cr_istore X ([(5, .int r864_75.1), (0, .ref b), (1, .ref (E.2.1 8 0)), (2, .ref (E.2.1 9 0)), (3, .ref (E.2.1 10 0)), (4, .int x4)]) rfl (by decide) dL_law_867 ?_
  refine cr_aload_n X 3 rfl dL_law_869 ?_
  refine cr_aload_n X 1 rfl dL_law_870 ?_
  refine cr_iload X 5 rfl dL_law_871 ?_
  refine cr_iconst X (1 : Int32) (by decide) dL_law_873 ?_
  refine cr_iadd X dL_law_874 ?_
  refine cr_sald X SC dL_law_875 ?_
  refine cr_aload_n X 1 rfl dL_law_876 ?_
  refine cr_iload X 5 rfl dL_law_877 ?_
  refine cr_iconst X (2 : Int32) (by decide) dL_law_879 ?_
  refine cr_iadd X dL_law_880 ?_
  refine cr_sald X SC dL_law_881 ?_
  refine cr_callV X (As := [.int ((xs ((x4 + (1 : Int32))).toNatClampNeg)), .int ((xs ((x4 + (2 : Int32))).toNatClampNeg))]) (rest := []) (c_X9_turbine_S Γ.2.1 E hEK r864_75.2 ((xs ((x4 + (1 : Int32))).toNatClampNeg)) ((xs ((x4 + (2 : Int32))).toNatClampNeg))) ((cr_m0 E).at rfl rfl) rfl 2 gL_law_X9_turbine rfl rfl rfl (by decide +kernel) ⟨Nat.le_of_ble_eq_true rfl, Nat.le_of_ble_eq_true rfl⟩ ⟨show 2 * j + 300 + 2 ≤ 601024 by omega, show 12 * j + 20000 + 12 ≤ 7293034 by omega⟩ rfl rfl (Nat.le_of_ble_eq_true rfl) dL_law_882 (fun r882_76 => ?_)
  show cr_P Γ E 9 _ (2 * j + 300 + 2) (12 * j + 20000 + 12) (cr_us r864_75.2 9 r882_76.2) 885 ([(5, .int r864_75.1), (0, .ref b), (1, .ref (E.2.1 8 0)), (2, .ref (E.2.1 9 0)), (3, .ref (E.2.1 10 0)), (4, .int x4)]) ([.int r882_76.1]) _
  refine cr_bds (fun S882_77 => ?_)
  refine cr_istore X ([(6, .int r882_76.1), (5, .int r864_75.1), (0, .ref b), (1, .ref (E.2.1 8 0)), (2, .ref (E.2.1 9 0)), (3, .ref (E.2.1 10 0)), (4, .int x4)]) rfl (by decide) dL_law_885 ?_
  refine cr_aload_n X 4 rfl dL_law_887 ?_
  refine cr_callV X (As := []) (rest := []) (c_X9_thrown_S Γ.2.1 E hEK S882_77) ((cr_m0 E).at rfl rfl) rfl 0 gL_law_X9_thrown rfl rfl rfl (by decide +kernel) ⟨Nat.le_of_ble_eq_true rfl, Nat.le_of_ble_eq_true rfl⟩ ⟨show 2 * j + 300 + 2 ≤ 601024 by omega, show 12 * j + 20000 + 12 ≤ 7293034 by omega⟩ rfl rfl (Nat.le_of_ble_eq_true rfl) dL_law_888 (fun r888_78 => ?_)
  show cr_P Γ E 9 _ (2 * j + 300 + 2) (12 * j + 20000 + 12) S882_77 891 ([(6, .int r882_76.1), (5, .int r864_75.1), (0, .ref b), (1, .ref (E.2.1 8 0)), (2, .ref (E.2.1 9 0)), (3, .ref (E.2.1 10 0)), (4, .int x4)]) ([.int r888_78]) _
  refine cr_iload X 1 rfl dL_law_891 ?_
  refine cr_icmp_eq X 898 dL_law_893 rfl ?_ ?_
  · refine cr_iload X 1 rfl dL_law_898 ?_
    refine cr_if_ne X 915 dL_law_900 rfl ?_ ?_
    · refine cr_goto X 1550 dL_law_915 rfl ?_
      refine cr_iinc0 X (x4 + 4) ([(4, .int ((x4 + 4))), (6, .int r882_76.1), (5, .int r864_75.1), (0, .ref b), (1, .ref (E.2.1 8 0)), (2, .ref (E.2.1 9 0)), (3, .ref (E.2.1 10 0))]) 6 rfl rfl rfl (by decide) dL_law_1550 ?_
      refine cr_goto X 23 dL_law_1553 rfl ?_
      refine cr_widen (2 * j + 300 + 2) (12 * j + 20000 + 12) (by omega) (by omega) ?_
      refine cr_sub (lv' := [(0, .ref b), (1, .ref (E.2.1 8 0)), (2, .ref (E.2.1 9 0)), (3, .ref (E.2.1 10 0)), (4, .int ((x4 + 4)))]) [3, 4, 5, 6, 0] rfl ?_
      exact hk23 S882_77
    · refine cr_aload_n X 5 rfl dL_law_903 ?_
      refine cr_iconst X (0 : Int32) (by decide) dL_law_904 ?_
      refine cr_lald X ((cr_o0 E).at rfl rfl) dL_law_905 ?_
      refine cr_iload X 0 rfl dL_law_906 ?_
      refine cr_i2l X dL_law_908 ?_
      refine cr_lcmp X dL_law_909 ?_
      refine cr_if_eq X 915 dL_law_910 rfl ?_ ?_
      · refine cr_goto X 1550 dL_law_915 rfl ?_
        refine cr_iinc0 X (x4 + 4) ([(4, .int ((x4 + 4))), (6, .int r882_76.1), (5, .int r864_75.1), (0, .ref b), (1, .ref (E.2.1 8 0)), (2, .ref (E.2.1 9 0)), (3, .ref (E.2.1 10 0))]) 6 rfl rfl rfl (by decide) dL_law_1550 ?_
        refine cr_goto X 23 dL_law_1553 rfl ?_
        refine cr_widen (2 * j + 300 + 2) (12 * j + 20000 + 12) (by omega) (by omega) ?_
        refine cr_sub (lv' := [(0, .ref b), (1, .ref (E.2.1 8 0)), (2, .ref (E.2.1 9 0)), (3, .ref (E.2.1 10 0)), (4, .int ((x4 + 4)))]) [3, 4, 5, 6, 0] rfl ?_
        exact hk23 S882_77
      · refine cr_iconst X (0 : Int32) (by decide) dL_law_913 ?_
        exact cr_none
  · refine cr_iconst X (0 : Int32) (by decide) dL_law_896 ?_
    exact cr_none
set_option maxHeartbeats 4000000 in
set_option maxRecDepth 100000 in
theorem b_L_law_918 {Γ : cr_C} {E : cr_E} (X : cr_X Γ E cL_law 9 RL wsL_law room_1 (some .boolean)) (Yl : Γ.2.1.stackTraces = false) (NC : cr_NC Γ.2.2.2.2.1) {b L : Nat} {xs : Nat → Int32} (SC : va_X b L xs Γ.2.2.2.2.1 Γ.2.2.2.2.1.heap ∧ b < Γ.2.2.2.2.1.heap.size ∧ ¬ E.2.2.1 b) {Φ : Unit → (State → Prop) → Prop} (j : Nat) (hj : j ≤ 511) (x4 : Int32) (k23 : Int32 → cr_S → Option Unit) (hk23 : ∀ S9, cr_P Γ E 9 Φ (2 * j + 300 + 2) (12 * j + 20000 + 12) S9 23 [(0, .ref b), (1, .ref (E.2.1 8 0)), (2, .ref (E.2.1 9 0)), (3, .ref (E.2.1 10 0)), (4, .int (x4 + 4))] [] (k23 (x4 + 4) S9)) (S : cr_S) : cr_P Γ E 9 Φ (2 * j + 300) (12 * j + 20000) S 918 ([(0, .ref b), (1, .ref (E.2.1 8 0)), (2, .ref (E.2.1 9 0)), (3, .ref (E.2.1 10 0)), (4, .int x4)]) [] (s_L_law_918 xs L k23 x4 S) := by
  have hEK := X.2.2.2.2.2.2.1
  unfold s_L_law_918
  refine cr_aload_n X 1 rfl dL_law_918 ?_
  refine cr_aload_n X 0 rfl dL_law_919 ?_
  refine cr_iload X 4 rfl dL_law_920 ?_
  refine cr_iconst X (1 : Int32) (by decide) dL_law_922 ?_
  refine cr_iadd X dL_law_923 ?_
  refine cr_sald X SC dL_law_924 ?_
  refine cr_aload_n X 0 rfl dL_law_925 ?_
  refine cr_iload X 4 rfl dL_law_926 ?_
  refine cr_iconst X (2 : Int32) (by decide) dL_law_928 ?_
  refine cr_iadd X dL_law_929 ?_
  refine cr_sald X SC dL_law_930 ?_
  refine cr_aload_n X 3 rfl dL_law_931 ?_
  refine cr_callSc X NC (As := [.ref (E.2.1 8 0), .int ((xs ((x4 + (1 : Int32))).toNatClampNeg)), .int ((xs ((x4 + (2 : Int32))).toNatClampNeg)), .ref (E.2.1 10 0)]) (rest := []) 2 12 (c_L_blade Γ.2.1 Yl E hEK S ((xs ((x4 + (1 : Int32))).toNatClampNeg)) ((xs ((x4 + (2 : Int32))).toNatClampNeg))) 4 gL_law_L_blade rfl rfl rfl (by decide +kernel) ⟨Nat.le_of_ble_eq_true rfl, Nat.le_of_ble_eq_true rfl⟩ ⟨show 2 * j + 300 + 2 ≤ 601024 by omega, show 12 * j + 20000 + 12 ≤ 7293034 by omega⟩ rfl rfl (Nat.le_of_ble_eq_true rfl) dL_law_932 (fun r932_81 => ?_)
  show cr_P Γ E 9 _ (2 * j + 300 + 2) (12 * j + 20000 + 12) r932_81.2 935 ([(0, .ref b), (1, .ref (E.2.1 8 0)), (2, .ref (E.2.1 9 0)), (3, .ref (E.2.1 10 0)), (4, .int x4)]) ([.int r932_81.1]) _
  refine cr_istore X ([(5, .int r932_81.1), (0, .ref b), (1, .ref (E.2.1 8 0)), (2, .ref (E.2.1 9 0)), (3, .ref (E.2.1 10 0)), (4, .int x4)]) rfl (by decide) dL_law_935 ?_
  refine cr_aload_n X 3 rfl dL_law_937 ?_
  refine cr_aload_n X 1 rfl dL_law_938 ?_
  refine cr_iload X 5 rfl dL_law_939 ?_
  refine cr_iconst X (1 : Int32) (by decide) dL_law_941 ?_
  refine cr_iadd X dL_law_942 ?_
  refine cr_sald X SC dL_law_943 ?_
  refine cr_aload_n X 1 rfl dL_law_944 ?_
  refine cr_iload X 5 rfl dL_law_945 ?_
  refine cr_iconst X (2 : Int32) (by decide) dL_law_947 ?_
  refine cr_iadd X dL_law_948 ?_
  refine cr_sald X SC dL_law_949 ?_
  refine cr_callV X (As := [.int ((xs ((x4 + (1 : Int32))).toNatClampNeg)), .int ((xs ((x4 + (2 : Int32))).toNatClampNeg))]) (rest := []) (c_X9_blade_S Γ.2.1 E hEK r932_81.2 ((xs ((x4 + (1 : Int32))).toNatClampNeg)) ((xs ((x4 + (2 : Int32))).toNatClampNeg))) ((cr_m0 E).at rfl rfl) rfl 2 gL_law_X9_blade rfl rfl rfl (by decide +kernel) ⟨Nat.le_of_ble_eq_true rfl, Nat.le_of_ble_eq_true rfl⟩ ⟨show 2 * j + 300 + 2 ≤ 601024 by omega, show 12 * j + 20000 + 12 ≤ 7293034 by omega⟩ rfl rfl (Nat.le_of_ble_eq_true rfl) dL_law_950 (fun r950_82 => ?_)
  show cr_P Γ E 9 _ (2 * j + 300 + 2) (12 * j + 20000 + 12) (cr_us r932_81.2 9 r950_82.2) 953 ([(5, .int r932_81.1), (0, .ref b), (1, .ref (E.2.1 8 0)), (2, .ref (E.2.1 9 0)), (3, .ref (E.2.1 10 0)), (4, .int x4)]) ([.int r950_82.1]) _
  refine cr_bds (fun S950_83 => ?_)
  refine cr_istore X ([(6, .int r950_82.1), (5, .int r932_81.1), (0, .ref b), (1, .ref (E.2.1 8 0)), (2, .ref (E.2.1 9 0)), (3, .ref (E.2.1 10 0)), (4, .int x4)]) rfl (by decide) dL_law_953 ?_
  refine cr_aload_n X 4 rfl dL_law_955 ?_
  refine cr_callV X (As := []) (rest := []) (c_X9_thrown_S Γ.2.1 E hEK S950_83) ((cr_m0 E).at rfl rfl) rfl 0 gL_law_X9_thrown rfl rfl rfl (by decide +kernel) ⟨Nat.le_of_ble_eq_true rfl, Nat.le_of_ble_eq_true rfl⟩ ⟨show 2 * j + 300 + 2 ≤ 601024 by omega, show 12 * j + 20000 + 12 ≤ 7293034 by omega⟩ rfl rfl (Nat.le_of_ble_eq_true rfl) dL_law_956 (fun r956_84 => ?_)
  show cr_P Γ E 9 _ (2 * j + 300 + 2) (12 * j + 20000 + 12) S950_83 959 ([(6, .int r950_82.1), (5, .int r932_81.1), (0, .ref b), (1, .ref (E.2.1 8 0)), (2, .ref (E.2.1 9 0)), (3, .ref (E.2.1 10 0)), (4, .int x4)]) ([.int r956_84]) _
  refine cr_iload X 1 rfl dL_law_959 ?_
  refine cr_icmp_eq X 966 dL_law_961 rfl ?_ ?_
  · refine cr_iload X 1 rfl dL_law_966 ?_
    refine cr_if_ne X 983 dL_law_968 rfl ?_ ?_
    · refine cr_goto X 1550 dL_law_983 rfl ?_
      refine cr_iinc0 X (x4 + 4) ([(4, .int ((x4 + 4))), (6, .int r950_82.1), (5, .int r932_81.1), (0, .ref b), (1, .ref (E.2.1 8 0)), (2, .ref (E.2.1 9 0)), (3, .ref (E.2.1 10 0))]) 6 rfl rfl rfl (by decide) dL_law_1550 ?_
      refine cr_goto X 23 dL_law_1553 rfl ?_
      refine cr_widen (2 * j + 300 + 2) (12 * j + 20000 + 12) (by omega) (by omega) ?_
      refine cr_sub (lv' := [(0, .ref b), (1, .ref (E.2.1 8 0)), (2, .ref (E.2.1 9 0)), (3, .ref (E.2.1 10 0)), (4, .int ((x4 + 4)))]) [3, 4, 5, 6, 0] rfl ?_
      exact hk23 S950_83
    · refine cr_aload_n X 5 rfl dL_law_971 ?_
      refine cr_iconst X (0 : Int32) (by decide) dL_law_972 ?_
      refine cr_lald X ((cr_o0 E).at rfl rfl) dL_law_973 ?_
      refine cr_iload X 0 rfl dL_law_974 ?_
      refine cr_i2l X dL_law_976 ?_
      refine cr_lcmp X dL_law_977 ?_
      refine cr_if_eq X 983 dL_law_978 rfl ?_ ?_
      · refine cr_goto X 1550 dL_law_983 rfl ?_
        refine cr_iinc0 X (x4 + 4) ([(4, .int ((x4 + 4))), (6, .int r950_82.1), (5, .int r932_81.1), (0, .ref b), (1, .ref (E.2.1 8 0)), (2, .ref (E.2.1 9 0)), (3, .ref (E.2.1 10 0))]) 6 rfl rfl rfl (by decide) dL_law_1550 ?_
        refine cr_goto X 23 dL_law_1553 rfl ?_
        refine cr_widen (2 * j + 300 + 2) (12 * j + 20000 + 12) (by omega) (by omega) ?_
        refine cr_sub (lv' := [(0, .ref b), (1, .ref (E.2.1 8 0)), (2, .ref (E.2.1 9 0)), (3, .ref (E.2.1 10 0)), (4, .int ((x4 + 4)))]) [3, 4, 5, 6, 0] rfl ?_
        exact hk23 S950_83
      · refine cr_iconst X (0 : Int32) (by decide) dL_law_981 ?_
        exact cr_none
  · refine cr_iconst X (0 : Int32) (by decide) dL_law_964 ?_
    exact cr_none
set_option maxHeartbeats 4000000 in
set_option maxRecDepth 100000 in
theorem b_L_law_986 {Γ : cr_C} {E : cr_E} (X : cr_X Γ E cL_law 9 RL wsL_law room_1 (some .boolean)) (Yl : Γ.2.1.stackTraces = false) (NC : cr_NC Γ.2.2.2.2.1) {b L : Nat} {xs : Nat → Int32} (SC : va_X b L xs Γ.2.2.2.2.1 Γ.2.2.2.2.1.heap ∧ b < Γ.2.2.2.2.1.heap.size ∧ ¬ E.2.2.1 b) {Φ : Unit → (State → Prop) → Prop} (j : Nat) (hj : j ≤ 511) (x4 : Int32) (k23 : Int32 → cr_S → Option Unit) (hk23 : ∀ S9, cr_P Γ E 9 Φ (2 * j + 300 + 2) (12 * j + 20000 + 12) S9 23 [(0, .ref b), (1, .ref (E.2.1 8 0)), (2, .ref (E.2.1 9 0)), (3, .ref (E.2.1 10 0)), (4, .int (x4 + 4))] [] (k23 (x4 + 4) S9)) (S : cr_S) : cr_P Γ E 9 Φ (2 * j + 300) (12 * j + 20000) S 986 ([(0, .ref b), (1, .ref (E.2.1 8 0)), (2, .ref (E.2.1 9 0)), (3, .ref (E.2.1 10 0)), (4, .int x4)]) [] (s_L_law_986 xs L k23 x4 S) := by
  have hEK := X.2.2.2.2.2.2.1
  unfold s_L_law_986
  refine cr_aload_n X 1 rfl dL_law_986 ?_
  refine cr_aload_n X 0 rfl dL_law_987 ?_
  refine cr_iload X 4 rfl dL_law_988 ?_
  refine cr_iconst X (1 : Int32) (by decide) dL_law_990 ?_
  refine cr_iadd X dL_law_991 ?_
  refine cr_sald X SC dL_law_992 ?_
  refine cr_aload_n X 0 rfl dL_law_993 ?_
  refine cr_iload X 4 rfl dL_law_994 ?_
  refine cr_iconst X (2 : Int32) (by decide) dL_law_996 ?_
  refine cr_iadd X dL_law_997 ?_
  refine cr_sald X SC dL_law_998 ?_
  refine cr_aload_n X 3 rfl dL_law_999 ?_
  refine cr_callSc X NC (As := [.ref (E.2.1 8 0), .int ((xs ((x4 + (1 : Int32))).toNatClampNeg)), .int ((xs ((x4 + (2 : Int32))).toNatClampNeg)), .ref (E.2.1 10 0)]) (rest := []) 2 12 (c_L_bog Γ.2.1 Yl E hEK S ((xs ((x4 + (1 : Int32))).toNatClampNeg)) ((xs ((x4 + (2 : Int32))).toNatClampNeg))) 4 gL_law_L_bog rfl rfl rfl (by decide +kernel) ⟨Nat.le_of_ble_eq_true rfl, Nat.le_of_ble_eq_true rfl⟩ ⟨show 2 * j + 300 + 2 ≤ 601024 by omega, show 12 * j + 20000 + 12 ≤ 7293034 by omega⟩ rfl rfl (Nat.le_of_ble_eq_true rfl) dL_law_1000 (fun r1000_87 => ?_)
  show cr_P Γ E 9 _ (2 * j + 300 + 2) (12 * j + 20000 + 12) r1000_87.2 1003 ([(0, .ref b), (1, .ref (E.2.1 8 0)), (2, .ref (E.2.1 9 0)), (3, .ref (E.2.1 10 0)), (4, .int x4)]) ([.int r1000_87.1]) _
  refine cr_istore X ([(5, .int r1000_87.1), (0, .ref b), (1, .ref (E.2.1 8 0)), (2, .ref (E.2.1 9 0)), (3, .ref (E.2.1 10 0)), (4, .int x4)]) rfl (by decide) dL_law_1003 ?_
  refine cr_aload_n X 3 rfl dL_law_1005 ?_
  refine cr_aload_n X 1 rfl dL_law_1006 ?_
  refine cr_iload X 5 rfl dL_law_1007 ?_
  refine cr_iconst X (1 : Int32) (by decide) dL_law_1009 ?_
  refine cr_iadd X dL_law_1010 ?_
  refine cr_sald X SC dL_law_1011 ?_
  refine cr_aload_n X 1 rfl dL_law_1012 ?_
  refine cr_iload X 5 rfl dL_law_1013 ?_
  refine cr_iconst X (2 : Int32) (by decide) dL_law_1015 ?_
  refine cr_iadd X dL_law_1016 ?_
  refine cr_sald X SC dL_law_1017 ?_
  refine cr_callV X (As := [.int ((xs ((x4 + (1 : Int32))).toNatClampNeg)), .int ((xs ((x4 + (2 : Int32))).toNatClampNeg))]) (rest := []) (c_X9_bog_S Γ.2.1 E hEK r1000_87.2 ((xs ((x4 + (1 : Int32))).toNatClampNeg)) ((xs ((x4 + (2 : Int32))).toNatClampNeg))) ((cr_m0 E).at rfl rfl) rfl 2 gL_law_X9_bog rfl rfl rfl (by decide +kernel) ⟨Nat.le_of_ble_eq_true rfl, Nat.le_of_ble_eq_true rfl⟩ ⟨show 2 * j + 300 + 2 ≤ 601024 by omega, show 12 * j + 20000 + 12 ≤ 7293034 by omega⟩ rfl rfl (Nat.le_of_ble_eq_true rfl) dL_law_1018 (fun r1018_88 => ?_)
  show cr_P Γ E 9 _ (2 * j + 300 + 2) (12 * j + 20000 + 12) (cr_us r1000_87.2 9 r1018_88.2) 1021 ([(5, .int r1000_87.1), (0, .ref b), (1, .ref (E.2.1 8 0)), (2, .ref (E.2.1 9 0)), (3, .ref (E.2.1 10 0)), (4, .int x4)]) ([.int r1018_88.1]) _
  refine cr_bds (fun S1018_89 => ?_)
  refine cr_istore X ([(6, .int r1018_88.1), (5, .int r1000_87.1), (0, .ref b), (1, .ref (E.2.1 8 0)), (2, .ref (E.2.1 9 0)), (3, .ref (E.2.1 10 0)), (4, .int x4)]) rfl (by decide) dL_law_1021 ?_
  refine cr_aload_n X 4 rfl dL_law_1023 ?_
  refine cr_callV X (As := []) (rest := []) (c_X9_thrown_S Γ.2.1 E hEK S1018_89) ((cr_m0 E).at rfl rfl) rfl 0 gL_law_X9_thrown rfl rfl rfl (by decide +kernel) ⟨Nat.le_of_ble_eq_true rfl, Nat.le_of_ble_eq_true rfl⟩ ⟨show 2 * j + 300 + 2 ≤ 601024 by omega, show 12 * j + 20000 + 12 ≤ 7293034 by omega⟩ rfl rfl (Nat.le_of_ble_eq_true rfl) dL_law_1024 (fun r1024_90 => ?_)
  show cr_P Γ E 9 _ (2 * j + 300 + 2) (12 * j + 20000 + 12) S1018_89 1027 ([(6, .int r1018_88.1), (5, .int r1000_87.1), (0, .ref b), (1, .ref (E.2.1 8 0)), (2, .ref (E.2.1 9 0)), (3, .ref (E.2.1 10 0)), (4, .int x4)]) ([.int r1024_90]) _
  refine cr_iload X 1 rfl dL_law_1027 ?_
  refine cr_icmp_eq X 1034 dL_law_1029 rfl ?_ ?_
  · refine cr_iload X 1 rfl dL_law_1034 ?_
    refine cr_if_ne X 1051 dL_law_1036 rfl ?_ ?_
    · refine cr_goto X 1550 dL_law_1051 rfl ?_
      refine cr_iinc0 X (x4 + 4) ([(4, .int ((x4 + 4))), (6, .int r1018_88.1), (5, .int r1000_87.1), (0, .ref b), (1, .ref (E.2.1 8 0)), (2, .ref (E.2.1 9 0)), (3, .ref (E.2.1 10 0))]) 6 rfl rfl rfl (by decide) dL_law_1550 ?_
      refine cr_goto X 23 dL_law_1553 rfl ?_
      refine cr_widen (2 * j + 300 + 2) (12 * j + 20000 + 12) (by omega) (by omega) ?_
      refine cr_sub (lv' := [(0, .ref b), (1, .ref (E.2.1 8 0)), (2, .ref (E.2.1 9 0)), (3, .ref (E.2.1 10 0)), (4, .int ((x4 + 4)))]) [3, 4, 5, 6, 0] rfl ?_
      exact hk23 S1018_89
    · refine cr_aload_n X 5 rfl dL_law_1039 ?_
      refine cr_iconst X (0 : Int32) (by decide) dL_law_1040 ?_
      refine cr_lald X ((cr_o0 E).at rfl rfl) dL_law_1041 ?_
      refine cr_iload X 0 rfl dL_law_1042 ?_
      refine cr_i2l X dL_law_1044 ?_
      refine cr_lcmp X dL_law_1045 ?_
      refine cr_if_eq X 1051 dL_law_1046 rfl ?_ ?_
      · refine cr_goto X 1550 dL_law_1051 rfl ?_
        refine cr_iinc0 X (x4 + 4) ([(4, .int ((x4 + 4))), (6, .int r1018_88.1), (5, .int r1000_87.1), (0, .ref b), (1, .ref (E.2.1 8 0)), (2, .ref (E.2.1 9 0)), (3, .ref (E.2.1 10 0))]) 6 rfl rfl rfl (by decide) dL_law_1550 ?_
        refine cr_goto X 23 dL_law_1553 rfl ?_
        refine cr_widen (2 * j + 300 + 2) (12 * j + 20000 + 12) (by omega) (by omega) ?_
        refine cr_sub (lv' := [(0, .ref b), (1, .ref (E.2.1 8 0)), (2, .ref (E.2.1 9 0)), (3, .ref (E.2.1 10 0)), (4, .int ((x4 + 4)))]) [3, 4, 5, 6, 0] rfl ?_
        exact hk23 S1018_89
      · refine cr_iconst X (0 : Int32) (by decide) dL_law_1049 ?_
        exact cr_none
  · refine cr_iconst X (0 : Int32) (by decide) dL_law_1032 ?_
    exact cr_none
set_option maxHeartbeats 4000000 in
set_option maxRecDepth 100000 in
theorem b_L_law_1054 {Γ : cr_C} {E : cr_E} (X : cr_X Γ E cL_law 9 RL wsL_law room_1 (some .boolean)) (Yl : Γ.2.1.stackTraces = false) (NC : cr_NC Γ.2.2.2.2.1) {b L : Nat} {xs : Nat → Int32} (SC : va_X b L xs Γ.2.2.2.2.1 Γ.2.2.2.2.1.heap ∧ b < Γ.2.2.2.2.1.heap.size ∧ ¬ E.2.2.1 b) {Φ : Unit → (State → Prop) → Prop} (j : Nat) (hj : j ≤ 511) (x4 : Int32) (k23 : Int32 → cr_S → Option Unit) (hk23 : ∀ S9, cr_P Γ E 9 Φ (2 * j + 300 + 2) (12 * j + 20000 + 12) S9 23 [(0, .ref b), (1, .ref (E.2.1 8 0)), (2, .ref (E.2.1 9 0)), (3, .ref (E.2.1 10 0)), (4, .int (x4 + 4))] [] (k23 (x4 + 4) S9)) (S : cr_S) : cr_P Γ E 9 Φ (2 * j + 300) (12 * j + 20000) S 1054 ([(0, .ref b), (1, .ref (E.2.1 8 0)), (2, .ref (E.2.1 9 0)), (3, .ref (E.2.1 10 0)), (4, .int x4)]) [] (s_L_law_1054 xs L k23 x4 S) := by
  have hEK := X.2.2.2.2.2.2.1
  unfold s_L_law_1054
  refine cr_aload_n X 1 rfl dL_law_1054 ?_
  refine cr_aload_n X 0 rfl dL_law_1055 ?_
  refine cr_iload X 4 rfl dL_law_1056 ?_
  refine cr_iconst X (1 : Int32) (by decide) dL_law_1058 ?_
  refine cr_iadd X dL_law_1059 ?_
  refine cr_sald X SC dL_law_1060 ?_
  refine cr_aload_n X 3 rfl dL_law_1061 ?_
  refine cr_callSc X NC (As := [.ref (E.2.1 8 0), .int ((xs ((x4 + (1 : Int32))).toNatClampNeg)), .ref (E.2.1 10 0)]) (rest := []) 2 12 (c_L_claims Γ.2.1 Yl E hEK S ((xs ((x4 + (1 : Int32))).toNatClampNeg))) 3 gL_law_L_claims rfl rfl rfl (by decide +kernel) ⟨Nat.le_of_ble_eq_true rfl, Nat.le_of_ble_eq_true rfl⟩ ⟨show 2 * j + 300 + 2 ≤ 601024 by omega, show 12 * j + 20000 + 12 ≤ 7293034 by omega⟩ rfl rfl (Nat.le_of_ble_eq_true rfl) dL_law_1062 (fun r1062_93 => ?_)
  show cr_P Γ E 9 _ (2 * j + 300 + 2) (12 * j + 20000 + 12) r1062_93.2 1065 ([(0, .ref b), (1, .ref (E.2.1 8 0)), (2, .ref (E.2.1 9 0)), (3, .ref (E.2.1 10 0)), (4, .int x4)]) ([.int r1062_93.1]) _
  refine cr_istore X ([(5, .int r1062_93.1), (0, .ref b), (1, .ref (E.2.1 8 0)), (2, .ref (E.2.1 9 0)), (3, .ref (E.2.1 10 0)), (4, .int x4)]) rfl (by decide) dL_law_1065 ?_
  refine cr_aload_n X 3 rfl dL_law_1067 ?_
  refine cr_aload_n X 1 rfl dL_law_1068 ?_
  refine cr_iload X 5 rfl dL_law_1069 ?_
  refine cr_iconst X (1 : Int32) (by decide) dL_law_1071 ?_
  refine cr_iadd X dL_law_1072 ?_
  refine cr_sald X SC dL_law_1073 ?_
  refine cr_callV X (As := [.int ((xs ((x4 + (1 : Int32))).toNatClampNeg))]) (rest := []) (c_X9_claims_S Γ.2.1 E hEK r1062_93.2 ((xs ((x4 + (1 : Int32))).toNatClampNeg))) ((cr_m0 E).at rfl rfl) rfl 1 gL_law_X9_claims rfl rfl rfl (by decide +kernel) ⟨Nat.le_of_ble_eq_true rfl, Nat.le_of_ble_eq_true rfl⟩ ⟨show 2 * j + 300 + 2 ≤ 601024 by omega, show 12 * j + 20000 + 12 ≤ 7293034 by omega⟩ rfl rfl (Nat.le_of_ble_eq_true rfl) dL_law_1074 (fun r1074_94 => ?_)
  show cr_P Γ E 9 _ (2 * j + 300 + 2) (12 * j + 20000 + 12) (cr_us r1062_93.2 9 r1074_94.2) 1077 ([(5, .int r1062_93.1), (0, .ref b), (1, .ref (E.2.1 8 0)), (2, .ref (E.2.1 9 0)), (3, .ref (E.2.1 10 0)), (4, .int x4)]) ([.int r1074_94.1]) _
  refine cr_bds (fun S1074_95 => ?_)
  refine cr_istore X ([(6, .int r1074_94.1), (5, .int r1062_93.1), (0, .ref b), (1, .ref (E.2.1 8 0)), (2, .ref (E.2.1 9 0)), (3, .ref (E.2.1 10 0)), (4, .int x4)]) rfl (by decide) dL_law_1077 ?_
  refine cr_aload_n X 4 rfl dL_law_1079 ?_
  refine cr_callV X (As := []) (rest := []) (c_X9_thrown_S Γ.2.1 E hEK S1074_95) ((cr_m0 E).at rfl rfl) rfl 0 gL_law_X9_thrown rfl rfl rfl (by decide +kernel) ⟨Nat.le_of_ble_eq_true rfl, Nat.le_of_ble_eq_true rfl⟩ ⟨show 2 * j + 300 + 2 ≤ 601024 by omega, show 12 * j + 20000 + 12 ≤ 7293034 by omega⟩ rfl rfl (Nat.le_of_ble_eq_true rfl) dL_law_1080 (fun r1080_96 => ?_)
  show cr_P Γ E 9 _ (2 * j + 300 + 2) (12 * j + 20000 + 12) S1074_95 1083 ([(6, .int r1074_94.1), (5, .int r1062_93.1), (0, .ref b), (1, .ref (E.2.1 8 0)), (2, .ref (E.2.1 9 0)), (3, .ref (E.2.1 10 0)), (4, .int x4)]) ([.int r1080_96]) _
  refine cr_iload X 1 rfl dL_law_1083 ?_
  refine cr_icmp_eq X 1090 dL_law_1085 rfl ?_ ?_
  · refine cr_iload X 1 rfl dL_law_1090 ?_
    refine cr_if_ne X 1107 dL_law_1092 rfl ?_ ?_
    · refine cr_goto X 1550 dL_law_1107 rfl ?_
      refine cr_iinc0 X (x4 + 4) ([(4, .int ((x4 + 4))), (6, .int r1074_94.1), (5, .int r1062_93.1), (0, .ref b), (1, .ref (E.2.1 8 0)), (2, .ref (E.2.1 9 0)), (3, .ref (E.2.1 10 0))]) 6 rfl rfl rfl (by decide) dL_law_1550 ?_
      refine cr_goto X 23 dL_law_1553 rfl ?_
      refine cr_widen (2 * j + 300 + 2) (12 * j + 20000 + 12) (by omega) (by omega) ?_
      refine cr_sub (lv' := [(0, .ref b), (1, .ref (E.2.1 8 0)), (2, .ref (E.2.1 9 0)), (3, .ref (E.2.1 10 0)), (4, .int ((x4 + 4)))]) [3, 4, 5, 6, 0] rfl ?_
      exact hk23 S1074_95
    · refine cr_aload_n X 5 rfl dL_law_1095 ?_
      refine cr_iconst X (0 : Int32) (by decide) dL_law_1096 ?_
      refine cr_lald X ((cr_o0 E).at rfl rfl) dL_law_1097 ?_
      refine cr_iload X 0 rfl dL_law_1098 ?_
      refine cr_i2l X dL_law_1100 ?_
      refine cr_lcmp X dL_law_1101 ?_
      refine cr_if_eq X 1107 dL_law_1102 rfl ?_ ?_
      · refine cr_goto X 1550 dL_law_1107 rfl ?_
        refine cr_iinc0 X (x4 + 4) ([(4, .int ((x4 + 4))), (6, .int r1074_94.1), (5, .int r1062_93.1), (0, .ref b), (1, .ref (E.2.1 8 0)), (2, .ref (E.2.1 9 0)), (3, .ref (E.2.1 10 0))]) 6 rfl rfl rfl (by decide) dL_law_1550 ?_
        refine cr_goto X 23 dL_law_1553 rfl ?_
        refine cr_widen (2 * j + 300 + 2) (12 * j + 20000 + 12) (by omega) (by omega) ?_
        refine cr_sub (lv' := [(0, .ref b), (1, .ref (E.2.1 8 0)), (2, .ref (E.2.1 9 0)), (3, .ref (E.2.1 10 0)), (4, .int ((x4 + 4)))]) [3, 4, 5, 6, 0] rfl ?_
        exact hk23 S1074_95
      · refine cr_iconst X (0 : Int32) (by decide) dL_law_1105 ?_
        exact cr_none
  · refine cr_iconst X (0 : Int32) (by decide) dL_law_1088 ?_
    exact cr_none
set_option maxHeartbeats 4000000 in
set_option maxRecDepth 100000 in
theorem b_L_law_1110 {Γ : cr_C} {E : cr_E} (X : cr_X Γ E cL_law 9 RL wsL_law room_1 (some .boolean)) (Yl : Γ.2.1.stackTraces = false) (NC : cr_NC Γ.2.2.2.2.1) {b L : Nat} {xs : Nat → Int32} (SC : va_X b L xs Γ.2.2.2.2.1 Γ.2.2.2.2.1.heap ∧ b < Γ.2.2.2.2.1.heap.size ∧ ¬ E.2.2.1 b) {Φ : Unit → (State → Prop) → Prop} (j : Nat) (hj : j ≤ 511) (x4 : Int32) (k23 : Int32 → cr_S → Option Unit) (hk23 : ∀ S9, cr_P Γ E 9 Φ (2 * j + 300 + 2) (12 * j + 20000 + 12) S9 23 [(0, .ref b), (1, .ref (E.2.1 8 0)), (2, .ref (E.2.1 9 0)), (3, .ref (E.2.1 10 0)), (4, .int (x4 + 4))] [] (k23 (x4 + 4) S9)) (S : cr_S) : cr_P Γ E 9 Φ (2 * j + 300) (12 * j + 20000) S 1110 ([(0, .ref b), (1, .ref (E.2.1 8 0)), (2, .ref (E.2.1 9 0)), (3, .ref (E.2.1 10 0)), (4, .int x4)]) [] (s_L_law_1110 xs L k23 x4 S) := by
  have hEK := X.2.2.2.2.2.2.1
  unfold s_L_law_1110
  refine cr_aload_n X 1 rfl dL_law_1110 ?_
  refine cr_aload_n X 0 rfl dL_law_1111 ?_
  refine cr_iload X 4 rfl dL_law_1112 ?_
  refine cr_iconst X (1 : Int32) (by decide) dL_law_1114 ?_
  refine cr_iadd X dL_law_1115 ?_
  refine cr_sald X SC dL_law_1116 ?_
  refine cr_aload_n X 3 rfl dL_law_1117 ?_
  refine cr_callSc X NC (As := [.ref (E.2.1 8 0), .int ((xs ((x4 + (1 : Int32))).toNatClampNeg)), .ref (E.2.1 10 0)]) (rest := []) 2 12 (c_L_count Γ.2.1 Yl E hEK S ((xs ((x4 + (1 : Int32))).toNatClampNeg))) 3 gL_law_L_count rfl rfl rfl (by decide +kernel) ⟨Nat.le_of_ble_eq_true rfl, Nat.le_of_ble_eq_true rfl⟩ ⟨show 2 * j + 300 + 2 ≤ 601024 by omega, show 12 * j + 20000 + 12 ≤ 7293034 by omega⟩ rfl rfl (Nat.le_of_ble_eq_true rfl) dL_law_1118 (fun r1118_99 => ?_)
  show cr_P Γ E 9 _ (2 * j + 300 + 2) (12 * j + 20000 + 12) r1118_99.2 1121 ([(0, .ref b), (1, .ref (E.2.1 8 0)), (2, .ref (E.2.1 9 0)), (3, .ref (E.2.1 10 0)), (4, .int x4)]) ([.int r1118_99.1]) _
  refine cr_istore X ([(5, .int r1118_99.1), (0, .ref b), (1, .ref (E.2.1 8 0)), (2, .ref (E.2.1 9 0)), (3, .ref (E.2.1 10 0)), (4, .int x4)]) rfl (by decide) dL_law_1121 ?_
  refine cr_aload_n X 3 rfl dL_law_1123 ?_
  refine cr_aload_n X 1 rfl dL_law_1124 ?_
  refine cr_iload X 5 rfl dL_law_1125 ?_
  refine cr_iconst X (1 : Int32) (by decide) dL_law_1127 ?_
  refine cr_iadd X dL_law_1128 ?_
  refine cr_sald X SC dL_law_1129 ?_
  refine cr_callV X (As := [.int ((xs ((x4 + (1 : Int32))).toNatClampNeg))]) (rest := []) (c_X9_count_S Γ.2.1 E hEK r1118_99.2 ((xs ((x4 + (1 : Int32))).toNatClampNeg))) ((cr_m0 E).at rfl rfl) rfl 1 gL_law_X9_count rfl rfl rfl (by decide +kernel) ⟨Nat.le_of_ble_eq_true rfl, Nat.le_of_ble_eq_true rfl⟩ ⟨show 2 * j + 300 + 2 ≤ 601024 by omega, show 12 * j + 20000 + 12 ≤ 7293034 by omega⟩ rfl rfl (Nat.le_of_ble_eq_true rfl) dL_law_1130 (fun r1130_100 => ?_)
  show cr_P Γ E 9 _ (2 * j + 300 + 2) (12 * j + 20000 + 12) (cr_us r1118_99.2 9 r1130_100.2) 1133 ([(5, .int r1118_99.1), (0, .ref b), (1, .ref (E.2.1 8 0)), (2, .ref (E.2.1 9 0)), (3, .ref (E.2.1 10 0)), (4, .int x4)]) ([.int r1130_100.1]) _
  refine cr_bds (fun S1130_101 => ?_)
  refine cr_istore X ([(6, .int r1130_100.1), (5, .int r1118_99.1), (0, .ref b), (1, .ref (E.2.1 8 0)), (2, .ref (E.2.1 9 0)), (3, .ref (E.2.1 10 0)), (4, .int x4)]) rfl (by decide) dL_law_1133 ?_
  refine cr_aload_n X 4 rfl dL_law_1135 ?_
  refine cr_callV X (As := []) (rest := []) (c_X9_thrown_S Γ.2.1 E hEK S1130_101) ((cr_m0 E).at rfl rfl) rfl 0 gL_law_X9_thrown rfl rfl rfl (by decide +kernel) ⟨Nat.le_of_ble_eq_true rfl, Nat.le_of_ble_eq_true rfl⟩ ⟨show 2 * j + 300 + 2 ≤ 601024 by omega, show 12 * j + 20000 + 12 ≤ 7293034 by omega⟩ rfl rfl (Nat.le_of_ble_eq_true rfl) dL_law_1136 (fun r1136_102 => ?_)
  show cr_P Γ E 9 _ (2 * j + 300 + 2) (12 * j + 20000 + 12) S1130_101 1139 ([(6, .int r1130_100.1), (5, .int r1118_99.1), (0, .ref b), (1, .ref (E.2.1 8 0)), (2, .ref (E.2.1 9 0)), (3, .ref (E.2.1 10 0)), (4, .int x4)]) ([.int r1136_102]) _
  refine cr_iload X 1 rfl dL_law_1139 ?_
  refine cr_icmp_eq X 1146 dL_law_1141 rfl ?_ ?_
  · refine cr_iload X 1 rfl dL_law_1146 ?_
    refine cr_if_ne X 1163 dL_law_1148 rfl ?_ ?_
    · refine cr_goto X 1550 dL_law_1163 rfl ?_
      refine cr_iinc0 X (x4 + 4) ([(4, .int ((x4 + 4))), (6, .int r1130_100.1), (5, .int r1118_99.1), (0, .ref b), (1, .ref (E.2.1 8 0)), (2, .ref (E.2.1 9 0)), (3, .ref (E.2.1 10 0))]) 6 rfl rfl rfl (by decide) dL_law_1550 ?_
      refine cr_goto X 23 dL_law_1553 rfl ?_
      refine cr_widen (2 * j + 300 + 2) (12 * j + 20000 + 12) (by omega) (by omega) ?_
      refine cr_sub (lv' := [(0, .ref b), (1, .ref (E.2.1 8 0)), (2, .ref (E.2.1 9 0)), (3, .ref (E.2.1 10 0)), (4, .int ((x4 + 4)))]) [3, 4, 5, 6, 0] rfl ?_
      exact hk23 S1130_101
    · refine cr_aload_n X 5 rfl dL_law_1151 ?_
      refine cr_iconst X (0 : Int32) (by decide) dL_law_1152 ?_
      refine cr_lald X ((cr_o0 E).at rfl rfl) dL_law_1153 ?_
      refine cr_iload X 0 rfl dL_law_1154 ?_
      refine cr_i2l X dL_law_1156 ?_
      refine cr_lcmp X dL_law_1157 ?_
      refine cr_if_eq X 1163 dL_law_1158 rfl ?_ ?_
      · refine cr_goto X 1550 dL_law_1163 rfl ?_
        refine cr_iinc0 X (x4 + 4) ([(4, .int ((x4 + 4))), (6, .int r1130_100.1), (5, .int r1118_99.1), (0, .ref b), (1, .ref (E.2.1 8 0)), (2, .ref (E.2.1 9 0)), (3, .ref (E.2.1 10 0))]) 6 rfl rfl rfl (by decide) dL_law_1550 ?_
        refine cr_goto X 23 dL_law_1553 rfl ?_
        refine cr_widen (2 * j + 300 + 2) (12 * j + 20000 + 12) (by omega) (by omega) ?_
        refine cr_sub (lv' := [(0, .ref b), (1, .ref (E.2.1 8 0)), (2, .ref (E.2.1 9 0)), (3, .ref (E.2.1 10 0)), (4, .int ((x4 + 4)))]) [3, 4, 5, 6, 0] rfl ?_
        exact hk23 S1130_101
      · refine cr_iconst X (0 : Int32) (by decide) dL_law_1161 ?_
        exact cr_none
  · refine cr_iconst X (0 : Int32) (by decide) dL_law_1144 ?_
    exact cr_none
set_option maxHeartbeats 4000000 in
set_option maxRecDepth 100000 in
theorem b_L_law_1166 {Γ : cr_C} {E : cr_E} (X : cr_X Γ E cL_law 9 RL wsL_law room_1 (some .boolean)) (Yl : Γ.2.1.stackTraces = false) (NC : cr_NC Γ.2.2.2.2.1) {b L : Nat} {xs : Nat → Int32} (SC : va_X b L xs Γ.2.2.2.2.1 Γ.2.2.2.2.1.heap ∧ b < Γ.2.2.2.2.1.heap.size ∧ ¬ E.2.2.1 b) {Φ : Unit → (State → Prop) → Prop} (j : Nat) (hj : j ≤ 511) (x4 : Int32) (k23 : Int32 → cr_S → Option Unit) (hk23 : ∀ S9, cr_P Γ E 9 Φ (2 * j + 300 + 2) (12 * j + 20000 + 12) S9 23 [(0, .ref b), (1, .ref (E.2.1 8 0)), (2, .ref (E.2.1 9 0)), (3, .ref (E.2.1 10 0)), (4, .int (x4 + 4))] [] (k23 (x4 + 4) S9)) (S : cr_S) : cr_P Γ E 9 Φ (2 * j + 300) (12 * j + 20000) S 1166 ([(0, .ref b), (1, .ref (E.2.1 8 0)), (2, .ref (E.2.1 9 0)), (3, .ref (E.2.1 10 0)), (4, .int x4)]) [] (s_L_law_1166 xs L k23 x4 S) := by
  have hEK := X.2.2.2.2.2.2.1
  unfold s_L_law_1166
  refine cr_aload_n X 1 rfl dL_law_1166 ?_
  refine cr_aload_n X 0 rfl dL_law_1167 ?_
  refine cr_iload X 4 rfl dL_law_1168 ?_
  refine cr_iconst X (1 : Int32) (by decide) dL_law_1170 ?_
  refine cr_iadd X dL_law_1171 ?_
  refine cr_sald X SC dL_law_1172 ?_
  refine cr_aload_n X 3 rfl dL_law_1173 ?_
  refine cr_callSc X NC (As := [.ref (E.2.1 8 0), .int ((xs ((x4 + (1 : Int32))).toNatClampNeg)), .ref (E.2.1 10 0)]) (rest := []) 2 12 (c_L_setting Γ.2.1 Yl E hEK S ((xs ((x4 + (1 : Int32))).toNatClampNeg))) 3 gL_law_L_setting rfl rfl rfl (by decide +kernel) ⟨Nat.le_of_ble_eq_true rfl, Nat.le_of_ble_eq_true rfl⟩ ⟨show 2 * j + 300 + 2 ≤ 601024 by omega, show 12 * j + 20000 + 12 ≤ 7293034 by omega⟩ rfl rfl (Nat.le_of_ble_eq_true rfl) dL_law_1174 (fun r1174_105 => ?_)
  show cr_P Γ E 9 _ (2 * j + 300 + 2) (12 * j + 20000 + 12) r1174_105.2 1177 ([(0, .ref b), (1, .ref (E.2.1 8 0)), (2, .ref (E.2.1 9 0)), (3, .ref (E.2.1 10 0)), (4, .int x4)]) ([.int r1174_105.1]) _
  refine cr_istore X ([(5, .int r1174_105.1), (0, .ref b), (1, .ref (E.2.1 8 0)), (2, .ref (E.2.1 9 0)), (3, .ref (E.2.1 10 0)), (4, .int x4)]) rfl (by decide) dL_law_1177 ?_
  refine cr_aload_n X 3 rfl dL_law_1179 ?_
  refine cr_aload_n X 1 rfl dL_law_1180 ?_
  refine cr_iload X 5 rfl dL_law_1181 ?_
  refine cr_iconst X (1 : Int32) (by decide) dL_law_1183 ?_
  refine cr_iadd X dL_law_1184 ?_
  refine cr_sald X SC dL_law_1185 ?_
  refine cr_callV X (As := [.int ((xs ((x4 + (1 : Int32))).toNatClampNeg))]) (rest := []) (c_X9_setting_S Γ.2.1 E hEK r1174_105.2 ((xs ((x4 + (1 : Int32))).toNatClampNeg))) ((cr_m0 E).at rfl rfl) rfl 1 gL_law_X9_setting rfl rfl rfl (by decide +kernel) ⟨Nat.le_of_ble_eq_true rfl, Nat.le_of_ble_eq_true rfl⟩ ⟨show 2 * j + 300 + 2 ≤ 601024 by omega, show 12 * j + 20000 + 12 ≤ 7293034 by omega⟩ rfl rfl (Nat.le_of_ble_eq_true rfl) dL_law_1186 (fun r1186_106 => ?_)
  show cr_P Γ E 9 _ (2 * j + 300 + 2) (12 * j + 20000 + 12) (cr_us r1174_105.2 9 r1186_106.2) 1189 ([(5, .int r1174_105.1), (0, .ref b), (1, .ref (E.2.1 8 0)), (2, .ref (E.2.1 9 0)), (3, .ref (E.2.1 10 0)), (4, .int x4)]) ([.int r1186_106.1]) _
  refine cr_bds (fun S1186_107 => ?_)
  refine cr_istore X ([(6, .int r1186_106.1), (5, .int r1174_105.1), (0, .ref b), (1, .ref (E.2.1 8 0)), (2, .ref (E.2.1 9 0)), (3, .ref (E.2.1 10 0)), (4, .int x4)]) rfl (by decide) dL_law_1189 ?_
  refine cr_aload_n X 4 rfl dL_law_1191 ?_
  refine cr_callV X (As := []) (rest := []) (c_X9_thrown_S Γ.2.1 E hEK S1186_107) ((cr_m0 E).at rfl rfl) rfl 0 gL_law_X9_thrown rfl rfl rfl (by decide +kernel) ⟨Nat.le_of_ble_eq_true rfl, Nat.le_of_ble_eq_true rfl⟩ ⟨show 2 * j + 300 + 2 ≤ 601024 by omega, show 12 * j + 20000 + 12 ≤ 7293034 by omega⟩ rfl rfl (Nat.le_of_ble_eq_true rfl) dL_law_1192 (fun r1192_108 => ?_)
  show cr_P Γ E 9 _ (2 * j + 300 + 2) (12 * j + 20000 + 12) S1186_107 1195 ([(6, .int r1186_106.1), (5, .int r1174_105.1), (0, .ref b), (1, .ref (E.2.1 8 0)), (2, .ref (E.2.1 9 0)), (3, .ref (E.2.1 10 0)), (4, .int x4)]) ([.int r1192_108]) _
  refine cr_iload X 1 rfl dL_law_1195 ?_
  refine cr_icmp_eq X 1202 dL_law_1197 rfl ?_ ?_
  · refine cr_iload X 1 rfl dL_law_1202 ?_
    refine cr_if_ne X 1219 dL_law_1204 rfl ?_ ?_
    · refine cr_goto X 1550 dL_law_1219 rfl ?_
      refine cr_iinc0 X (x4 + 4) ([(4, .int ((x4 + 4))), (6, .int r1186_106.1), (5, .int r1174_105.1), (0, .ref b), (1, .ref (E.2.1 8 0)), (2, .ref (E.2.1 9 0)), (3, .ref (E.2.1 10 0))]) 6 rfl rfl rfl (by decide) dL_law_1550 ?_
      refine cr_goto X 23 dL_law_1553 rfl ?_
      refine cr_widen (2 * j + 300 + 2) (12 * j + 20000 + 12) (by omega) (by omega) ?_
      refine cr_sub (lv' := [(0, .ref b), (1, .ref (E.2.1 8 0)), (2, .ref (E.2.1 9 0)), (3, .ref (E.2.1 10 0)), (4, .int ((x4 + 4)))]) [3, 4, 5, 6, 0] rfl ?_
      exact hk23 S1186_107
    · refine cr_aload_n X 5 rfl dL_law_1207 ?_
      refine cr_iconst X (0 : Int32) (by decide) dL_law_1208 ?_
      refine cr_lald X ((cr_o0 E).at rfl rfl) dL_law_1209 ?_
      refine cr_iload X 0 rfl dL_law_1210 ?_
      refine cr_i2l X dL_law_1212 ?_
      refine cr_lcmp X dL_law_1213 ?_
      refine cr_if_eq X 1219 dL_law_1214 rfl ?_ ?_
      · refine cr_goto X 1550 dL_law_1219 rfl ?_
        refine cr_iinc0 X (x4 + 4) ([(4, .int ((x4 + 4))), (6, .int r1186_106.1), (5, .int r1174_105.1), (0, .ref b), (1, .ref (E.2.1 8 0)), (2, .ref (E.2.1 9 0)), (3, .ref (E.2.1 10 0))]) 6 rfl rfl rfl (by decide) dL_law_1550 ?_
        refine cr_goto X 23 dL_law_1553 rfl ?_
        refine cr_widen (2 * j + 300 + 2) (12 * j + 20000 + 12) (by omega) (by omega) ?_
        refine cr_sub (lv' := [(0, .ref b), (1, .ref (E.2.1 8 0)), (2, .ref (E.2.1 9 0)), (3, .ref (E.2.1 10 0)), (4, .int ((x4 + 4)))]) [3, 4, 5, 6, 0] rfl ?_
        exact hk23 S1186_107
      · refine cr_iconst X (0 : Int32) (by decide) dL_law_1217 ?_
        exact cr_none
  · refine cr_iconst X (0 : Int32) (by decide) dL_law_1200 ?_
    exact cr_none
set_option maxHeartbeats 4000000 in
set_option maxRecDepth 100000 in
theorem b_L_law_1222 {Γ : cr_C} {E : cr_E} (X : cr_X Γ E cL_law 9 RL wsL_law room_1 (some .boolean)) (Yl : Γ.2.1.stackTraces = false) (NC : cr_NC Γ.2.2.2.2.1) {b L : Nat} {xs : Nat → Int32} (SC : va_X b L xs Γ.2.2.2.2.1 Γ.2.2.2.2.1.heap ∧ b < Γ.2.2.2.2.1.heap.size ∧ ¬ E.2.2.1 b) {Φ : Unit → (State → Prop) → Prop} (j : Nat) (hj : j ≤ 511) (x4 : Int32) (k23 : Int32 → cr_S → Option Unit) (hk23 : ∀ S9, cr_P Γ E 9 Φ (2 * j + 300 + 2) (12 * j + 20000 + 12) S9 23 [(0, .ref b), (1, .ref (E.2.1 8 0)), (2, .ref (E.2.1 9 0)), (3, .ref (E.2.1 10 0)), (4, .int (x4 + 4))] [] (k23 (x4 + 4) S9)) (S : cr_S) : cr_P Γ E 9 Φ (2 * j + 300) (12 * j + 20000) S 1222 ([(0, .ref b), (1, .ref (E.2.1 8 0)), (2, .ref (E.2.1 9 0)), (3, .ref (E.2.1 10 0)), (4, .int x4)]) [] (s_L_law_1222 xs L k23 x4 S) := by
  have hEK := X.2.2.2.2.2.2.1
  unfold s_L_law_1222
  refine cr_aload_n X 1 rfl dL_law_1222 ?_
  refine cr_aload_n X 0 rfl dL_law_1223 ?_
  refine cr_iload X 4 rfl dL_law_1224 ?_
  refine cr_iconst X (1 : Int32) (by decide) dL_law_1226 ?_
  refine cr_iadd X dL_law_1227 ?_
  refine cr_sald X SC dL_law_1228 ?_
  refine cr_aload_n X 0 rfl dL_law_1229 ?_
  refine cr_iload X 4 rfl dL_law_1230 ?_
  refine cr_iconst X (2 : Int32) (by decide) dL_law_1232 ?_
  refine cr_iadd X dL_law_1233 ?_
  refine cr_sald X SC dL_law_1234 ?_
  refine cr_aload_n X 3 rfl dL_law_1235 ?_
  refine cr_callSc X NC (As := [.ref (E.2.1 8 0), .int ((xs ((x4 + (1 : Int32))).toNatClampNeg)), .int ((xs ((x4 + (2 : Int32))).toNatClampNeg)), .ref (E.2.1 10 0)]) (rest := []) 2 12 (c_L_way Γ.2.1 Yl E hEK S ((xs ((x4 + (1 : Int32))).toNatClampNeg)) ((xs ((x4 + (2 : Int32))).toNatClampNeg))) 4 gL_law_L_way rfl rfl rfl (by decide +kernel) ⟨Nat.le_of_ble_eq_true rfl, Nat.le_of_ble_eq_true rfl⟩ ⟨show 2 * j + 300 + 2 ≤ 601024 by omega, show 12 * j + 20000 + 12 ≤ 7293034 by omega⟩ rfl rfl (Nat.le_of_ble_eq_true rfl) dL_law_1236 (fun r1236_111 => ?_)
  show cr_P Γ E 9 _ (2 * j + 300 + 2) (12 * j + 20000 + 12) r1236_111.2 1239 ([(0, .ref b), (1, .ref (E.2.1 8 0)), (2, .ref (E.2.1 9 0)), (3, .ref (E.2.1 10 0)), (4, .int x4)]) ([.int r1236_111.1]) _
  refine cr_istore X ([(5, .int r1236_111.1), (0, .ref b), (1, .ref (E.2.1 8 0)), (2, .ref (E.2.1 9 0)), (3, .ref (E.2.1 10 0)), (4, .int x4)]) rfl (by decide) dL_law_1239 ?_
  refine cr_aload_n X 3 rfl dL_law_1241 ?_
  refine cr_aload_n X 1 rfl dL_law_1242 ?_
  refine cr_iload X 5 rfl dL_law_1243 ?_
  refine cr_iconst X (1 : Int32) (by decide) dL_law_1245 ?_
  refine cr_iadd X dL_law_1246 ?_
  refine cr_sald X SC dL_law_1247 ?_
  refine cr_aload_n X 1 rfl dL_law_1248 ?_
  refine cr_iload X 5 rfl dL_law_1249 ?_
  refine cr_iconst X (2 : Int32) (by decide) dL_law_1251 ?_
  refine cr_iadd X dL_law_1252 ?_
  refine cr_sald X SC dL_law_1253 ?_
  refine cr_callV X (As := [.int ((xs ((x4 + (1 : Int32))).toNatClampNeg)), .int ((xs ((x4 + (2 : Int32))).toNatClampNeg))]) (rest := []) (c_X9_way_S Γ.2.1 E hEK r1236_111.2 ((xs ((x4 + (1 : Int32))).toNatClampNeg)) ((xs ((x4 + (2 : Int32))).toNatClampNeg))) ((cr_m0 E).at rfl rfl) rfl 2 gL_law_X9_way rfl rfl rfl (by decide +kernel) ⟨Nat.le_of_ble_eq_true rfl, Nat.le_of_ble_eq_true rfl⟩ ⟨show 2 * j + 300 + 2 ≤ 601024 by omega, show 12 * j + 20000 + 12 ≤ 7293034 by omega⟩ rfl rfl (Nat.le_of_ble_eq_true rfl) dL_law_1254 (fun r1254_112 => ?_)
  show cr_P Γ E 9 _ (2 * j + 300 + 2) (12 * j + 20000 + 12) (cr_us r1236_111.2 9 r1254_112.2) 1257 ([(5, .int r1236_111.1), (0, .ref b), (1, .ref (E.2.1 8 0)), (2, .ref (E.2.1 9 0)), (3, .ref (E.2.1 10 0)), (4, .int x4)]) ([.int r1254_112.1]) _
  refine cr_bds (fun S1254_113 => ?_)
  refine cr_istore X ([(6, .int r1254_112.1), (5, .int r1236_111.1), (0, .ref b), (1, .ref (E.2.1 8 0)), (2, .ref (E.2.1 9 0)), (3, .ref (E.2.1 10 0)), (4, .int x4)]) rfl (by decide) dL_law_1257 ?_
  refine cr_aload_n X 4 rfl dL_law_1259 ?_
  refine cr_callV X (As := []) (rest := []) (c_X9_thrown_S Γ.2.1 E hEK S1254_113) ((cr_m0 E).at rfl rfl) rfl 0 gL_law_X9_thrown rfl rfl rfl (by decide +kernel) ⟨Nat.le_of_ble_eq_true rfl, Nat.le_of_ble_eq_true rfl⟩ ⟨show 2 * j + 300 + 2 ≤ 601024 by omega, show 12 * j + 20000 + 12 ≤ 7293034 by omega⟩ rfl rfl (Nat.le_of_ble_eq_true rfl) dL_law_1260 (fun r1260_114 => ?_)
  show cr_P Γ E 9 _ (2 * j + 300 + 2) (12 * j + 20000 + 12) S1254_113 1263 ([(6, .int r1254_112.1), (5, .int r1236_111.1), (0, .ref b), (1, .ref (E.2.1 8 0)), (2, .ref (E.2.1 9 0)), (3, .ref (E.2.1 10 0)), (4, .int x4)]) ([.int r1260_114]) _
  refine cr_iload X 1 rfl dL_law_1263 ?_
  refine cr_icmp_eq X 1270 dL_law_1265 rfl ?_ ?_
  · refine cr_iload X 1 rfl dL_law_1270 ?_
    refine cr_if_ne X 1287 dL_law_1272 rfl ?_ ?_
    · refine cr_goto X 1550 dL_law_1287 rfl ?_
      refine cr_iinc0 X (x4 + 4) ([(4, .int ((x4 + 4))), (6, .int r1254_112.1), (5, .int r1236_111.1), (0, .ref b), (1, .ref (E.2.1 8 0)), (2, .ref (E.2.1 9 0)), (3, .ref (E.2.1 10 0))]) 6 rfl rfl rfl (by decide) dL_law_1550 ?_
      refine cr_goto X 23 dL_law_1553 rfl ?_
      refine cr_widen (2 * j + 300 + 2) (12 * j + 20000 + 12) (by omega) (by omega) ?_
      refine cr_sub (lv' := [(0, .ref b), (1, .ref (E.2.1 8 0)), (2, .ref (E.2.1 9 0)), (3, .ref (E.2.1 10 0)), (4, .int ((x4 + 4)))]) [3, 4, 5, 6, 0] rfl ?_
      exact hk23 S1254_113
    · refine cr_aload_n X 5 rfl dL_law_1275 ?_
      refine cr_iconst X (0 : Int32) (by decide) dL_law_1276 ?_
      refine cr_lald X ((cr_o0 E).at rfl rfl) dL_law_1277 ?_
      refine cr_iload X 0 rfl dL_law_1278 ?_
      refine cr_i2l X dL_law_1280 ?_
      refine cr_lcmp X dL_law_1281 ?_
      refine cr_if_eq X 1287 dL_law_1282 rfl ?_ ?_
      · refine cr_goto X 1550 dL_law_1287 rfl ?_
        refine cr_iinc0 X (x4 + 4) ([(4, .int ((x4 + 4))), (6, .int r1254_112.1), (5, .int r1236_111.1), (0, .ref b), (1, .ref (E.2.1 8 0)), (2, .ref (E.2.1 9 0)), (3, .ref (E.2.1 10 0))]) 6 rfl rfl rfl (by decide) dL_law_1550 ?_
        refine cr_goto X 23 dL_law_1553 rfl ?_
        refine cr_widen (2 * j + 300 + 2) (12 * j + 20000 + 12) (by omega) (by omega) ?_
        refine cr_sub (lv' := [(0, .ref b), (1, .ref (E.2.1 8 0)), (2, .ref (E.2.1 9 0)), (3, .ref (E.2.1 10 0)), (4, .int ((x4 + 4)))]) [3, 4, 5, 6, 0] rfl ?_
        exact hk23 S1254_113
      · refine cr_iconst X (0 : Int32) (by decide) dL_law_1285 ?_
        exact cr_none
  · refine cr_iconst X (0 : Int32) (by decide) dL_law_1268 ?_
    exact cr_none
set_option maxHeartbeats 4000000 in
set_option maxRecDepth 100000 in
theorem b_L_law_1290 {Γ : cr_C} {E : cr_E} (X : cr_X Γ E cL_law 9 RL wsL_law room_1 (some .boolean)) (Yl : Γ.2.1.stackTraces = false) (NC : cr_NC Γ.2.2.2.2.1) {b L : Nat} {xs : Nat → Int32} (SC : va_X b L xs Γ.2.2.2.2.1 Γ.2.2.2.2.1.heap ∧ b < Γ.2.2.2.2.1.heap.size ∧ ¬ E.2.2.1 b) {Φ : Unit → (State → Prop) → Prop} (j : Nat) (hj : j ≤ 511) (x4 : Int32) (k23 : Int32 → cr_S → Option Unit) (hk23 : ∀ S9, cr_P Γ E 9 Φ (2 * j + 300 + 2) (12 * j + 20000 + 12) S9 23 [(0, .ref b), (1, .ref (E.2.1 8 0)), (2, .ref (E.2.1 9 0)), (3, .ref (E.2.1 10 0)), (4, .int (x4 + 4))] [] (k23 (x4 + 4) S9)) (S : cr_S) : cr_P Γ E 9 Φ (2 * j + 300) (12 * j + 20000) S 1290 ([(0, .ref b), (1, .ref (E.2.1 8 0)), (2, .ref (E.2.1 9 0)), (3, .ref (E.2.1 10 0)), (4, .int x4)]) [] (s_L_law_1290 xs L k23 x4 S) := by
  have hEK := X.2.2.2.2.2.2.1
  unfold s_L_law_1290
  refine cr_aload_n X 1 rfl dL_law_1290 ?_
  refine cr_aload_n X 0 rfl dL_law_1291 ?_
  refine cr_iload X 4 rfl dL_law_1292 ?_
  refine cr_iconst X (1 : Int32) (by decide) dL_law_1294 ?_
  refine cr_iadd X dL_law_1295 ?_
  refine cr_sald X SC dL_law_1296 ?_
  refine cr_aload_n X 0 rfl dL_law_1297 ?_
  refine cr_iload X 4 rfl dL_law_1298 ?_
  refine cr_iconst X (2 : Int32) (by decide) dL_law_1300 ?_
  refine cr_iadd X dL_law_1301 ?_
  refine cr_sald X SC dL_law_1302 ?_
  refine cr_aload_n X 3 rfl dL_law_1303 ?_
  refine cr_callSc X NC (As := [.ref (E.2.1 8 0), .int ((xs ((x4 + (1 : Int32))).toNatClampNeg)), .int ((xs ((x4 + (2 : Int32))).toNatClampNeg)), .ref (E.2.1 10 0)]) (rest := []) 2 12 (c_L_ifPassed Γ.2.1 Yl E hEK S ((xs ((x4 + (1 : Int32))).toNatClampNeg)) ((xs ((x4 + (2 : Int32))).toNatClampNeg))) 4 gL_law_L_ifPassed rfl rfl rfl (by decide +kernel) ⟨Nat.le_of_ble_eq_true rfl, Nat.le_of_ble_eq_true rfl⟩ ⟨show 2 * j + 300 + 2 ≤ 601024 by omega, show 12 * j + 20000 + 12 ≤ 7293034 by omega⟩ rfl rfl (Nat.le_of_ble_eq_true rfl) dL_law_1304 (fun r1304_117 => ?_)
  show cr_P Γ E 9 _ (2 * j + 300 + 2) (12 * j + 20000 + 12) r1304_117.2 1307 ([(0, .ref b), (1, .ref (E.2.1 8 0)), (2, .ref (E.2.1 9 0)), (3, .ref (E.2.1 10 0)), (4, .int x4)]) ([.int r1304_117.1]) _
  refine cr_istore X ([(5, .int r1304_117.1), (0, .ref b), (1, .ref (E.2.1 8 0)), (2, .ref (E.2.1 9 0)), (3, .ref (E.2.1 10 0)), (4, .int x4)]) rfl (by decide) dL_law_1307 ?_
  refine cr_aload_n X 3 rfl dL_law_1309 ?_
  refine cr_aload_n X 1 rfl dL_law_1310 ?_
  refine cr_iload X 5 rfl dL_law_1311 ?_
  refine cr_iconst X (1 : Int32) (by decide) dL_law_1313 ?_
  refine cr_iadd X dL_law_1314 ?_
  refine cr_sald X SC dL_law_1315 ?_
  refine cr_aload_n X 1 rfl dL_law_1316 ?_
  refine cr_iload X 5 rfl dL_law_1317 ?_
  refine cr_iconst X (2 : Int32) (by decide) dL_law_1319 ?_
  refine cr_iadd X dL_law_1320 ?_
  refine cr_sald X SC dL_law_1321 ?_
  refine cr_callV X (As := [.int ((xs ((x4 + (1 : Int32))).toNatClampNeg)), .int ((xs ((x4 + (2 : Int32))).toNatClampNeg))]) (rest := []) (c_X9_ifPassed_S Γ.2.1 E hEK r1304_117.2 ((xs ((x4 + (1 : Int32))).toNatClampNeg)) ((xs ((x4 + (2 : Int32))).toNatClampNeg))) ((cr_m0 E).at rfl rfl) rfl 2 gL_law_X9_ifPassed rfl rfl rfl (by decide +kernel) ⟨Nat.le_of_ble_eq_true rfl, Nat.le_of_ble_eq_true rfl⟩ ⟨show 2 * j + 300 + 2 ≤ 601024 by omega, show 12 * j + 20000 + 12 ≤ 7293034 by omega⟩ rfl rfl (Nat.le_of_ble_eq_true rfl) dL_law_1322 (fun r1322_118 => ?_)
  show cr_P Γ E 9 _ (2 * j + 300 + 2) (12 * j + 20000 + 12) (cr_us r1304_117.2 9 r1322_118.2) 1325 ([(5, .int r1304_117.1), (0, .ref b), (1, .ref (E.2.1 8 0)), (2, .ref (E.2.1 9 0)), (3, .ref (E.2.1 10 0)), (4, .int x4)]) ([.int r1322_118.1]) _
  refine cr_bds (fun S1322_119 => ?_)
  refine cr_istore X ([(6, .int r1322_118.1), (5, .int r1304_117.1), (0, .ref b), (1, .ref (E.2.1 8 0)), (2, .ref (E.2.1 9 0)), (3, .ref (E.2.1 10 0)), (4, .int x4)]) rfl (by decide) dL_law_1325 ?_
  refine cr_aload_n X 4 rfl dL_law_1327 ?_
  refine cr_callV X (As := []) (rest := []) (c_X9_thrown_S Γ.2.1 E hEK S1322_119) ((cr_m0 E).at rfl rfl) rfl 0 gL_law_X9_thrown rfl rfl rfl (by decide +kernel) ⟨Nat.le_of_ble_eq_true rfl, Nat.le_of_ble_eq_true rfl⟩ ⟨show 2 * j + 300 + 2 ≤ 601024 by omega, show 12 * j + 20000 + 12 ≤ 7293034 by omega⟩ rfl rfl (Nat.le_of_ble_eq_true rfl) dL_law_1328 (fun r1328_120 => ?_)
  show cr_P Γ E 9 _ (2 * j + 300 + 2) (12 * j + 20000 + 12) S1322_119 1331 ([(6, .int r1322_118.1), (5, .int r1304_117.1), (0, .ref b), (1, .ref (E.2.1 8 0)), (2, .ref (E.2.1 9 0)), (3, .ref (E.2.1 10 0)), (4, .int x4)]) ([.int r1328_120]) _
  refine cr_iload X 1 rfl dL_law_1331 ?_
  refine cr_icmp_eq X 1338 dL_law_1333 rfl ?_ ?_
  · refine cr_iload X 1 rfl dL_law_1338 ?_
    refine cr_if_ne X 1355 dL_law_1340 rfl ?_ ?_
    · refine cr_goto X 1550 dL_law_1355 rfl ?_
      refine cr_iinc0 X (x4 + 4) ([(4, .int ((x4 + 4))), (6, .int r1322_118.1), (5, .int r1304_117.1), (0, .ref b), (1, .ref (E.2.1 8 0)), (2, .ref (E.2.1 9 0)), (3, .ref (E.2.1 10 0))]) 6 rfl rfl rfl (by decide) dL_law_1550 ?_
      refine cr_goto X 23 dL_law_1553 rfl ?_
      refine cr_widen (2 * j + 300 + 2) (12 * j + 20000 + 12) (by omega) (by omega) ?_
      refine cr_sub (lv' := [(0, .ref b), (1, .ref (E.2.1 8 0)), (2, .ref (E.2.1 9 0)), (3, .ref (E.2.1 10 0)), (4, .int ((x4 + 4)))]) [3, 4, 5, 6, 0] rfl ?_
      exact hk23 S1322_119
    · refine cr_aload_n X 5 rfl dL_law_1343 ?_
      refine cr_iconst X (0 : Int32) (by decide) dL_law_1344 ?_
      refine cr_lald X ((cr_o0 E).at rfl rfl) dL_law_1345 ?_
      refine cr_iload X 0 rfl dL_law_1346 ?_
      refine cr_i2l X dL_law_1348 ?_
      refine cr_lcmp X dL_law_1349 ?_
      refine cr_if_eq X 1355 dL_law_1350 rfl ?_ ?_
      · refine cr_goto X 1550 dL_law_1355 rfl ?_
        refine cr_iinc0 X (x4 + 4) ([(4, .int ((x4 + 4))), (6, .int r1322_118.1), (5, .int r1304_117.1), (0, .ref b), (1, .ref (E.2.1 8 0)), (2, .ref (E.2.1 9 0)), (3, .ref (E.2.1 10 0))]) 6 rfl rfl rfl (by decide) dL_law_1550 ?_
        refine cr_goto X 23 dL_law_1553 rfl ?_
        refine cr_widen (2 * j + 300 + 2) (12 * j + 20000 + 12) (by omega) (by omega) ?_
        refine cr_sub (lv' := [(0, .ref b), (1, .ref (E.2.1 8 0)), (2, .ref (E.2.1 9 0)), (3, .ref (E.2.1 10 0)), (4, .int ((x4 + 4)))]) [3, 4, 5, 6, 0] rfl ?_
        exact hk23 S1322_119
      · refine cr_iconst X (0 : Int32) (by decide) dL_law_1353 ?_
        exact cr_none
  · refine cr_iconst X (0 : Int32) (by decide) dL_law_1336 ?_
    exact cr_none
set_option maxHeartbeats 4000000 in
set_option maxRecDepth 100000 in
theorem b_L_law_1358 {Γ : cr_C} {E : cr_E} (X : cr_X Γ E cL_law 9 RL wsL_law room_1 (some .boolean)) (Yl : Γ.2.1.stackTraces = false) (NC : cr_NC Γ.2.2.2.2.1) {b L : Nat} {xs : Nat → Int32} (SC : va_X b L xs Γ.2.2.2.2.1 Γ.2.2.2.2.1.heap ∧ b < Γ.2.2.2.2.1.heap.size ∧ ¬ E.2.2.1 b) {Φ : Unit → (State → Prop) → Prop} (j : Nat) (hj : j ≤ 511) (x4 : Int32) (k23 : Int32 → cr_S → Option Unit) (hk23 : ∀ S9, cr_P Γ E 9 Φ (2 * j + 300 + 2) (12 * j + 20000 + 12) S9 23 [(0, .ref b), (1, .ref (E.2.1 8 0)), (2, .ref (E.2.1 9 0)), (3, .ref (E.2.1 10 0)), (4, .int (x4 + 4))] [] (k23 (x4 + 4) S9)) (S : cr_S) : cr_P Γ E 9 Φ (2 * j + 300) (12 * j + 20000) S 1358 ([(0, .ref b), (1, .ref (E.2.1 8 0)), (2, .ref (E.2.1 9 0)), (3, .ref (E.2.1 10 0)), (4, .int x4)]) [] (s_L_law_1358 xs L k23 x4 S) := by
  have hEK := X.2.2.2.2.2.2.1
  unfold s_L_law_1358
  refine cr_aload_n X 1 rfl dL_law_1358 ?_
  refine cr_callV X (As := []) (rest := []) (c_X8_bestFirst Γ.2.1 E hEK S) ((cr_b0 E).at rfl rfl) rfl 0 gL_law_X8_bestFirst rfl rfl rfl (by decide +kernel) ⟨Nat.le_of_ble_eq_true rfl, Nat.le_of_ble_eq_true rfl⟩ ⟨show 2 * j + 300 ≤ 601024 by omega, show 12 * j + 20000 ≤ 7293034 by omega⟩ rfl rfl (Nat.le_of_ble_eq_true rfl) dL_law_1359 (fun r1359_123 => ?_)
  show cr_P Γ E 9 _ (2 * j + 300) (12 * j + 20000) r1359_123.2 1362 ([(0, .ref b), (1, .ref (E.2.1 8 0)), (2, .ref (E.2.1 9 0)), (3, .ref (E.2.1 10 0)), (4, .int x4)]) ([.int r1359_123.1]) _
  refine cr_aload_n X 2 rfl dL_law_1362 ?_
  refine cr_callV X (As := []) (rest := [.int r1359_123.1]) (c_X9_bestFirst_S Γ.2.1 E hEK r1359_123.2) ((cr_m0 E).at rfl rfl) rfl 0 gL_law_X9_bestFirst rfl rfl rfl (by decide +kernel) ⟨Nat.le_of_ble_eq_true rfl, Nat.le_of_ble_eq_true rfl⟩ ⟨show 2 * j + 300 ≤ 601024 by omega, show 12 * j + 20000 ≤ 7293034 by omega⟩ rfl rfl (Nat.le_of_ble_eq_true rfl) dL_law_1363 (fun r1363_124 => ?_)
  show cr_P Γ E 9 _ (2 * j + 300) (12 * j + 20000) (cr_us r1359_123.2 9 r1363_124.2) 1366 ([(0, .ref b), (1, .ref (E.2.1 8 0)), (2, .ref (E.2.1 9 0)), (3, .ref (E.2.1 10 0)), (4, .int x4)]) ([.int r1363_124.1, .int r1359_123.1]) _
  refine cr_bds (fun S1363_125 => ?_)
  refine cr_icmp_eq X 1550 dL_law_1366 rfl ?_ ?_
  · refine cr_iinc0 X (x4 + 4) ([(4, .int ((x4 + 4))), (0, .ref b), (1, .ref (E.2.1 8 0)), (2, .ref (E.2.1 9 0)), (3, .ref (E.2.1 10 0))]) 4 rfl rfl rfl (by decide) dL_law_1550 ?_
    refine cr_goto X 23 dL_law_1553 rfl ?_
    refine cr_widen (2 * j + 300 + 2) (12 * j + 20000 + 12) (by omega) (by omega) ?_
    refine cr_sub (lv' := [(0, .ref b), (1, .ref (E.2.1 8 0)), (2, .ref (E.2.1 9 0)), (3, .ref (E.2.1 10 0)), (4, .int ((x4 + 4)))]) [1, 2, 3, 4, 0] rfl ?_
    exact hk23 S1363_125
  · refine cr_iconst X (0 : Int32) (by decide) dL_law_1369 ?_
    exact cr_none
set_option maxHeartbeats 4000000 in
set_option maxRecDepth 100000 in
theorem b_L_law_1371 {Γ : cr_C} {E : cr_E} (X : cr_X Γ E cL_law 9 RL wsL_law room_1 (some .boolean)) (Yl : Γ.2.1.stackTraces = false) (NC : cr_NC Γ.2.2.2.2.1) {b L : Nat} {xs : Nat → Int32} (SC : va_X b L xs Γ.2.2.2.2.1 Γ.2.2.2.2.1.heap ∧ b < Γ.2.2.2.2.1.heap.size ∧ ¬ E.2.2.1 b) {Φ : Unit → (State → Prop) → Prop} (j : Nat) (hj : j ≤ 511) (x4 : Int32) (k23 : Int32 → cr_S → Option Unit) (hk23 : ∀ S9, cr_P Γ E 9 Φ (2 * j + 300 + 2) (12 * j + 20000 + 12) S9 23 [(0, .ref b), (1, .ref (E.2.1 8 0)), (2, .ref (E.2.1 9 0)), (3, .ref (E.2.1 10 0)), (4, .int (x4 + 4))] [] (k23 (x4 + 4) S9)) (S : cr_S) : cr_P Γ E 9 Φ (2 * j + 300) (12 * j + 20000) S 1371 ([(0, .ref b), (1, .ref (E.2.1 8 0)), (2, .ref (E.2.1 9 0)), (3, .ref (E.2.1 10 0)), (4, .int x4)]) [] (s_L_law_1371 xs L k23 x4 S) := by
  have hEK := X.2.2.2.2.2.2.1
  unfold s_L_law_1371
  refine cr_aload_n X 1 rfl dL_law_1371 ?_
  refine cr_aload_n X 0 rfl dL_law_1372 ?_
  refine cr_iload X 4 rfl dL_law_1373 ?_
  refine cr_iconst X (1 : Int32) (by decide) dL_law_1375 ?_
  refine cr_iadd X dL_law_1376 ?_
  refine cr_sald X SC dL_law_1377 ?_
  refine cr_aload_n X 0 rfl dL_law_1378 ?_
  refine cr_iload X 4 rfl dL_law_1379 ?_
  refine cr_iconst X (2 : Int32) (by decide) dL_law_1381 ?_
  refine cr_iadd X dL_law_1382 ?_
  refine cr_sald X SC dL_law_1383 ?_
  refine cr_aload_n X 3 rfl dL_law_1384 ?_
  refine cr_callSc X NC (As := [.ref (E.2.1 8 0), .int ((xs ((x4 + (1 : Int32))).toNatClampNeg)), .int ((xs ((x4 + (2 : Int32))).toNatClampNeg)), .ref (E.2.1 10 0)]) (rest := []) 2 12 (c_L_window Γ.2.1 Yl E hEK S ((xs ((x4 + (1 : Int32))).toNatClampNeg)) ((xs ((x4 + (2 : Int32))).toNatClampNeg))) 4 gL_law_L_window rfl rfl rfl (by decide +kernel) ⟨Nat.le_of_ble_eq_true rfl, Nat.le_of_ble_eq_true rfl⟩ ⟨show 2 * j + 300 + 2 ≤ 601024 by omega, show 12 * j + 20000 + 12 ≤ 7293034 by omega⟩ rfl rfl (Nat.le_of_ble_eq_true rfl) dL_law_1385 (fun r1385_127 => ?_)
  show cr_P Γ E 9 _ (2 * j + 300 + 2) (12 * j + 20000 + 12) r1385_127.2 1388 ([(0, .ref b), (1, .ref (E.2.1 8 0)), (2, .ref (E.2.1 9 0)), (3, .ref (E.2.1 10 0)), (4, .int x4)]) ([.int r1385_127.1]) _
  refine cr_istore X ([(5, .int r1385_127.1), (0, .ref b), (1, .ref (E.2.1 8 0)), (2, .ref (E.2.1 9 0)), (3, .ref (E.2.1 10 0)), (4, .int x4)]) rfl (by decide) dL_law_1388 ?_
  refine cr_aload_n X 3 rfl dL_law_1390 ?_
  refine cr_aload_n X 1 rfl dL_law_1391 ?_
  refine cr_iload X 5 rfl dL_law_1392 ?_
  refine cr_iconst X (1 : Int32) (by decide) dL_law_1394 ?_
  refine cr_iadd X dL_law_1395 ?_
  refine cr_sald X SC dL_law_1396 ?_
  refine cr_aload_n X 1 rfl dL_law_1397 ?_
  refine cr_iload X 5 rfl dL_law_1398 ?_
  refine cr_iconst X (2 : Int32) (by decide) dL_law_1400 ?_
  refine cr_iadd X dL_law_1401 ?_
  refine cr_sald X SC dL_law_1402 ?_
  refine cr_callV X (As := [.int ((xs ((x4 + (1 : Int32))).toNatClampNeg)), .int ((xs ((x4 + (2 : Int32))).toNatClampNeg))]) (rest := []) (c_X9_window_S Γ.2.1 E hEK r1385_127.2 ((xs ((x4 + (1 : Int32))).toNatClampNeg)) ((xs ((x4 + (2 : Int32))).toNatClampNeg))) ((cr_m0 E).at rfl rfl) rfl 2 gL_law_X9_window rfl rfl rfl (by decide +kernel) ⟨Nat.le_of_ble_eq_true rfl, Nat.le_of_ble_eq_true rfl⟩ ⟨show 2 * j + 300 + 2 ≤ 601024 by omega, show 12 * j + 20000 + 12 ≤ 7293034 by omega⟩ rfl rfl (Nat.le_of_ble_eq_true rfl) dL_law_1403 (fun r1403_128 => ?_)
  show cr_P Γ E 9 _ (2 * j + 300 + 2) (12 * j + 20000 + 12) (cr_us r1385_127.2 9 r1403_128.2) 1406 ([(5, .int r1385_127.1), (0, .ref b), (1, .ref (E.2.1 8 0)), (2, .ref (E.2.1 9 0)), (3, .ref (E.2.1 10 0)), (4, .int x4)]) ([.int r1403_128.1]) _
  refine cr_bds (fun S1403_129 => ?_)
  refine cr_istore X ([(6, .int r1403_128.1), (5, .int r1385_127.1), (0, .ref b), (1, .ref (E.2.1 8 0)), (2, .ref (E.2.1 9 0)), (3, .ref (E.2.1 10 0)), (4, .int x4)]) rfl (by decide) dL_law_1406 ?_
  refine cr_aload_n X 4 rfl dL_law_1408 ?_
  refine cr_callV X (As := []) (rest := []) (c_X9_thrown_S Γ.2.1 E hEK S1403_129) ((cr_m0 E).at rfl rfl) rfl 0 gL_law_X9_thrown rfl rfl rfl (by decide +kernel) ⟨Nat.le_of_ble_eq_true rfl, Nat.le_of_ble_eq_true rfl⟩ ⟨show 2 * j + 300 + 2 ≤ 601024 by omega, show 12 * j + 20000 + 12 ≤ 7293034 by omega⟩ rfl rfl (Nat.le_of_ble_eq_true rfl) dL_law_1409 (fun r1409_130 => ?_)
  show cr_P Γ E 9 _ (2 * j + 300 + 2) (12 * j + 20000 + 12) S1403_129 1412 ([(6, .int r1403_128.1), (5, .int r1385_127.1), (0, .ref b), (1, .ref (E.2.1 8 0)), (2, .ref (E.2.1 9 0)), (3, .ref (E.2.1 10 0)), (4, .int x4)]) ([.int r1409_130]) _
  refine cr_iload X 1 rfl dL_law_1412 ?_
  refine cr_icmp_eq X 1419 dL_law_1414 rfl ?_ ?_
  · refine cr_iload X 1 rfl dL_law_1419 ?_
    refine cr_if_ne X 1436 dL_law_1421 rfl ?_ ?_
    · refine cr_goto X 1550 dL_law_1436 rfl ?_
      refine cr_iinc0 X (x4 + 4) ([(4, .int ((x4 + 4))), (6, .int r1403_128.1), (5, .int r1385_127.1), (0, .ref b), (1, .ref (E.2.1 8 0)), (2, .ref (E.2.1 9 0)), (3, .ref (E.2.1 10 0))]) 6 rfl rfl rfl (by decide) dL_law_1550 ?_
      refine cr_goto X 23 dL_law_1553 rfl ?_
      refine cr_widen (2 * j + 300 + 2) (12 * j + 20000 + 12) (by omega) (by omega) ?_
      refine cr_sub (lv' := [(0, .ref b), (1, .ref (E.2.1 8 0)), (2, .ref (E.2.1 9 0)), (3, .ref (E.2.1 10 0)), (4, .int ((x4 + 4)))]) [3, 4, 5, 6, 0] rfl ?_
      exact hk23 S1403_129
    · refine cr_aload_n X 5 rfl dL_law_1424 ?_
      refine cr_iconst X (0 : Int32) (by decide) dL_law_1425 ?_
      refine cr_lald X ((cr_o0 E).at rfl rfl) dL_law_1426 ?_
      refine cr_iload X 0 rfl dL_law_1427 ?_
      refine cr_i2l X dL_law_1429 ?_
      refine cr_lcmp X dL_law_1430 ?_
      refine cr_if_eq X 1436 dL_law_1431 rfl ?_ ?_
      · refine cr_goto X 1550 dL_law_1436 rfl ?_
        refine cr_iinc0 X (x4 + 4) ([(4, .int ((x4 + 4))), (6, .int r1403_128.1), (5, .int r1385_127.1), (0, .ref b), (1, .ref (E.2.1 8 0)), (2, .ref (E.2.1 9 0)), (3, .ref (E.2.1 10 0))]) 6 rfl rfl rfl (by decide) dL_law_1550 ?_
        refine cr_goto X 23 dL_law_1553 rfl ?_
        refine cr_widen (2 * j + 300 + 2) (12 * j + 20000 + 12) (by omega) (by omega) ?_
        refine cr_sub (lv' := [(0, .ref b), (1, .ref (E.2.1 8 0)), (2, .ref (E.2.1 9 0)), (3, .ref (E.2.1 10 0)), (4, .int ((x4 + 4)))]) [3, 4, 5, 6, 0] rfl ?_
        exact hk23 S1403_129
      · refine cr_iconst X (0 : Int32) (by decide) dL_law_1434 ?_
        exact cr_none
  · refine cr_iconst X (0 : Int32) (by decide) dL_law_1417 ?_
    exact cr_none
set_option maxHeartbeats 4000000 in
set_option maxRecDepth 100000 in
theorem b_L_law_1439 {Γ : cr_C} {E : cr_E} (X : cr_X Γ E cL_law 9 RL wsL_law room_1 (some .boolean)) (Yl : Γ.2.1.stackTraces = false) (NC : cr_NC Γ.2.2.2.2.1) {b L : Nat} {xs : Nat → Int32} (SC : va_X b L xs Γ.2.2.2.2.1 Γ.2.2.2.2.1.heap ∧ b < Γ.2.2.2.2.1.heap.size ∧ ¬ E.2.2.1 b) {Φ : Unit → (State → Prop) → Prop} (j : Nat) (hj : j ≤ 511) (x4 : Int32) (k23 : Int32 → cr_S → Option Unit) (hk23 : ∀ S9, cr_P Γ E 9 Φ (2 * j + 300 + 2) (12 * j + 20000 + 12) S9 23 [(0, .ref b), (1, .ref (E.2.1 8 0)), (2, .ref (E.2.1 9 0)), (3, .ref (E.2.1 10 0)), (4, .int (x4 + 4))] [] (k23 (x4 + 4) S9)) (S : cr_S) : cr_P Γ E 9 Φ (2 * j + 300) (12 * j + 20000) S 1439 ([(0, .ref b), (1, .ref (E.2.1 8 0)), (2, .ref (E.2.1 9 0)), (3, .ref (E.2.1 10 0)), (4, .int x4)]) [] (s_L_law_1439 xs L k23 x4 S) := by
  have hEK := X.2.2.2.2.2.2.1
  unfold s_L_law_1439
  refine cr_aload_n X 1 rfl dL_law_1439 ?_
  refine cr_callV X (As := []) (rest := []) (c_X8_doneIn Γ.2.1 E hEK S) ((cr_b0 E).at rfl rfl) rfl 0 gL_law_X8_doneIn rfl rfl rfl (by decide +kernel) ⟨Nat.le_of_ble_eq_true rfl, Nat.le_of_ble_eq_true rfl⟩ ⟨show 2 * j + 300 ≤ 601024 by omega, show 12 * j + 20000 ≤ 7293034 by omega⟩ rfl rfl (Nat.le_of_ble_eq_true rfl) dL_law_1440 (fun r1440_133 => ?_)
  show cr_P Γ E 9 _ (2 * j + 300) (12 * j + 20000) r1440_133.2 1443 ([(0, .ref b), (1, .ref (E.2.1 8 0)), (2, .ref (E.2.1 9 0)), (3, .ref (E.2.1 10 0)), (4, .int x4)]) ([.int r1440_133.1]) _
  refine cr_aload_n X 2 rfl dL_law_1443 ?_
  refine cr_callV X (As := []) (rest := [.int r1440_133.1]) (c_X9_doneIn_S Γ.2.1 E hEK r1440_133.2) ((cr_m0 E).at rfl rfl) rfl 0 gL_law_X9_doneIn rfl rfl rfl (by decide +kernel) ⟨Nat.le_of_ble_eq_true rfl, Nat.le_of_ble_eq_true rfl⟩ ⟨show 2 * j + 300 ≤ 601024 by omega, show 12 * j + 20000 ≤ 7293034 by omega⟩ rfl rfl (Nat.le_of_ble_eq_true rfl) dL_law_1444 (fun r1444_134 => ?_)
  show cr_P Γ E 9 _ (2 * j + 300) (12 * j + 20000) (cr_us r1440_133.2 9 r1444_134.2) 1447 ([(0, .ref b), (1, .ref (E.2.1 8 0)), (2, .ref (E.2.1 9 0)), (3, .ref (E.2.1 10 0)), (4, .int x4)]) ([.int r1444_134.1, .int r1440_133.1]) _
  refine cr_bds (fun S1444_135 => ?_)
  refine cr_icmp_eq X 1550 dL_law_1447 rfl ?_ ?_
  · refine cr_iinc0 X (x4 + 4) ([(4, .int ((x4 + 4))), (0, .ref b), (1, .ref (E.2.1 8 0)), (2, .ref (E.2.1 9 0)), (3, .ref (E.2.1 10 0))]) 4 rfl rfl rfl (by decide) dL_law_1550 ?_
    refine cr_goto X 23 dL_law_1553 rfl ?_
    refine cr_widen (2 * j + 300 + 2) (12 * j + 20000 + 12) (by omega) (by omega) ?_
    refine cr_sub (lv' := [(0, .ref b), (1, .ref (E.2.1 8 0)), (2, .ref (E.2.1 9 0)), (3, .ref (E.2.1 10 0)), (4, .int ((x4 + 4)))]) [1, 2, 3, 4, 0] rfl ?_
    exact hk23 S1444_135
  · refine cr_iconst X (0 : Int32) (by decide) dL_law_1450 ?_
    exact cr_none
set_option maxHeartbeats 4000000 in
set_option maxRecDepth 100000 in
theorem b_L_law_1452 {Γ : cr_C} {E : cr_E} (X : cr_X Γ E cL_law 9 RL wsL_law room_1 (some .boolean)) (Yl : Γ.2.1.stackTraces = false) (NC : cr_NC Γ.2.2.2.2.1) {b L : Nat} {xs : Nat → Int32} (SC : va_X b L xs Γ.2.2.2.2.1 Γ.2.2.2.2.1.heap ∧ b < Γ.2.2.2.2.1.heap.size ∧ ¬ E.2.2.1 b) {Φ : Unit → (State → Prop) → Prop} (j : Nat) (hj : j ≤ 511) (x4 : Int32) (k23 : Int32 → cr_S → Option Unit) (hk23 : ∀ S9, cr_P Γ E 9 Φ (2 * j + 300 + 2) (12 * j + 20000 + 12) S9 23 [(0, .ref b), (1, .ref (E.2.1 8 0)), (2, .ref (E.2.1 9 0)), (3, .ref (E.2.1 10 0)), (4, .int (x4 + 4))] [] (k23 (x4 + 4) S9)) (S : cr_S) : cr_P Γ E 9 Φ (2 * j + 300) (12 * j + 20000) S 1452 ([(0, .ref b), (1, .ref (E.2.1 8 0)), (2, .ref (E.2.1 9 0)), (3, .ref (E.2.1 10 0)), (4, .int x4)]) [] (s_L_law_1452 xs L k23 x4 S) := by
  have hEK := X.2.2.2.2.2.2.1
  unfold s_L_law_1452
  refine cr_aload_n X 1 rfl dL_law_1452 ?_
  refine cr_callV X (As := []) (rest := []) (c_X8_meanWind Γ.2.1 E hEK S) ((cr_b0 E).at rfl rfl) rfl 0 gL_law_X8_meanWind rfl rfl rfl (by decide +kernel) ⟨Nat.le_of_ble_eq_true rfl, Nat.le_of_ble_eq_true rfl⟩ ⟨show 2 * j + 300 ≤ 601024 by omega, show 12 * j + 20000 ≤ 7293034 by omega⟩ rfl rfl (Nat.le_of_ble_eq_true rfl) dL_law_1453 (fun r1453_137 => ?_)
  show cr_P Γ E 9 _ (2 * j + 300) (12 * j + 20000) S 1456 ([(0, .ref b), (1, .ref (E.2.1 8 0)), (2, .ref (E.2.1 9 0)), (3, .ref (E.2.1 10 0)), (4, .int x4)]) ([.float r1453_137]) _
  refine cr_f2d X dL_law_1456 ?_
  refine cr_dstoreb X (fun v1457_138 => [(5, .double v1457_138), (0, .ref b), (1, .ref (E.2.1 8 0)), (2, .ref (E.2.1 9 0)), (3, .ref (E.2.1 10 0)), (4, .int x4)]) (fun _ => rfl) (by decide) dL_law_1457 (fun v1457_138 => ?_)
  refine cr_aload_n X 3 rfl dL_law_1459 ?_
  refine cr_callV X (As := []) (rest := []) (c_X9_meanWind_S Γ.2.1 E hEK S) ((cr_m0 E).at rfl rfl) rfl 0 gL_law_X9_meanWind rfl rfl rfl (by decide +kernel) ⟨Nat.le_of_ble_eq_true rfl, Nat.le_of_ble_eq_true rfl⟩ ⟨show 2 * j + 300 ≤ 601024 by omega, show 12 * j + 20000 ≤ 7293034 by omega⟩ rfl rfl (Nat.le_of_ble_eq_true rfl) dL_law_1460 (fun r1460_139 => ?_)
  show cr_P Γ E 9 _ (2 * j + 300) (12 * j + 20000) (cr_us S 9 r1460_139.2) 1463 ([(5, .double v1457_138), (0, .ref b), (1, .ref (E.2.1 8 0)), (2, .ref (E.2.1 9 0)), (3, .ref (E.2.1 10 0)), (4, .int x4)]) ([.float r1460_139.1]) _
  refine cr_bds (fun S1460_140 => ?_)
  refine cr_f2d X dL_law_1463 ?_
  refine cr_dstoreb X (fun v1464_141 => [(7, .double v1464_141), (5, .double v1457_138), (0, .ref b), (1, .ref (E.2.1 8 0)), (2, .ref (E.2.1 9 0)), (3, .ref (E.2.1 10 0)), (4, .int x4)]) (fun _ => rfl) (by decide) dL_law_1464 (fun v1464_141 => ?_)
  refine cr_dload X 1 rfl dL_law_1466 ?_
  refine cr_dload X 0 rfl dL_law_1468 ?_
  refine cr_dcmp X dL_law_1470 ?_
  refine cr_if_eq X 1492 dL_law_1471 rfl ?_ ?_
  · refine cr_goto X 1550 dL_law_1492 rfl ?_
    refine cr_iinc0 X (x4 + 4) ([(4, .int ((x4 + 4))), (7, .double v1464_141), (5, .double v1457_138), (0, .ref b), (1, .ref (E.2.1 8 0)), (2, .ref (E.2.1 9 0)), (3, .ref (E.2.1 10 0))]) 6 rfl rfl rfl (by decide) dL_law_1550 ?_
    refine cr_goto X 23 dL_law_1553 rfl ?_
    refine cr_widen (2 * j + 300 + 2) (12 * j + 20000 + 12) (by omega) (by omega) ?_
    refine cr_sub (lv' := [(0, .ref b), (1, .ref (E.2.1 8 0)), (2, .ref (E.2.1 9 0)), (3, .ref (E.2.1 10 0)), (4, .int ((x4 + 4)))]) [3, 4, 5, 6, 0] rfl ?_
    exact hk23 S1460_140
  · refine cr_dload X 1 rfl dL_law_1474 ?_
    refine cr_dload X 1 rfl dL_law_1476 ?_
    refine cr_dcmp X dL_law_1478 ?_
    refine cr_if_eq X 1490 dL_law_1479 rfl ?_ ?_
    · refine cr_iconst X (0 : Int32) (by decide) dL_law_1490 ?_
      exact cr_none
    · refine cr_dload X 0 rfl dL_law_1482 ?_
      refine cr_dload X 0 rfl dL_law_1484 ?_
      refine cr_dcmp X dL_law_1486 ?_
      refine cr_if_ne X 1492 dL_law_1487 rfl ?_ ?_
      · refine cr_goto X 1550 dL_law_1492 rfl ?_
        refine cr_iinc0 X (x4 + 4) ([(4, .int ((x4 + 4))), (7, .double v1464_141), (5, .double v1457_138), (0, .ref b), (1, .ref (E.2.1 8 0)), (2, .ref (E.2.1 9 0)), (3, .ref (E.2.1 10 0))]) 6 rfl rfl rfl (by decide) dL_law_1550 ?_
        refine cr_goto X 23 dL_law_1553 rfl ?_
        refine cr_widen (2 * j + 300 + 2) (12 * j + 20000 + 12) (by omega) (by omega) ?_
        refine cr_sub (lv' := [(0, .ref b), (1, .ref (E.2.1 8 0)), (2, .ref (E.2.1 9 0)), (3, .ref (E.2.1 10 0)), (4, .int ((x4 + 4)))]) [3, 4, 5, 6, 0] rfl ?_
        exact hk23 S1460_140
      · refine cr_iconst X (0 : Int32) (by decide) dL_law_1490 ?_
        exact cr_none
set_option maxHeartbeats 4000000 in
set_option maxRecDepth 100000 in
theorem b_L_law_1495 {Γ : cr_C} {E : cr_E} (X : cr_X Γ E cL_law 9 RL wsL_law room_1 (some .boolean)) (Yl : Γ.2.1.stackTraces = false) (NC : cr_NC Γ.2.2.2.2.1) {b L : Nat} {xs : Nat → Int32} (SC : va_X b L xs Γ.2.2.2.2.1 Γ.2.2.2.2.1.heap ∧ b < Γ.2.2.2.2.1.heap.size ∧ ¬ E.2.2.1 b) {Φ : Unit → (State → Prop) → Prop} (j : Nat) (hj : j ≤ 511) (x4 : Int32) (k23 : Int32 → cr_S → Option Unit) (hk23 : ∀ S9, cr_P Γ E 9 Φ (2 * j + 300 + 2) (12 * j + 20000 + 12) S9 23 [(0, .ref b), (1, .ref (E.2.1 8 0)), (2, .ref (E.2.1 9 0)), (3, .ref (E.2.1 10 0)), (4, .int (x4 + 4))] [] (k23 (x4 + 4) S9)) (S : cr_S) : cr_P Γ E 9 Φ (2 * j + 300) (12 * j + 20000) S 1495 ([(0, .ref b), (1, .ref (E.2.1 8 0)), (2, .ref (E.2.1 9 0)), (3, .ref (E.2.1 10 0)), (4, .int x4)]) [] (s_L_law_1495 xs L k23 x4 S) := by
  have hEK := X.2.2.2.2.2.2.1
  unfold s_L_law_1495
  refine cr_aload_n X 1 rfl dL_law_1495 ?_
  refine cr_callV X (As := []) (rest := []) (c_X8_lostShare Γ.2.1 E hEK S) ((cr_b0 E).at rfl rfl) rfl 0 gL_law_X8_lostShare rfl rfl rfl (by decide +kernel) ⟨Nat.le_of_ble_eq_true rfl, Nat.le_of_ble_eq_true rfl⟩ ⟨show 2 * j + 300 ≤ 601024 by omega, show 12 * j + 20000 ≤ 7293034 by omega⟩ rfl rfl (Nat.le_of_ble_eq_true rfl) dL_law_1496 (fun r1496_144 => ?_)
  show cr_P Γ E 9 _ (2 * j + 300) (12 * j + 20000) S 1499 ([(0, .ref b), (1, .ref (E.2.1 8 0)), (2, .ref (E.2.1 9 0)), (3, .ref (E.2.1 10 0)), (4, .int x4)]) ([.double r1496_144]) _
  refine cr_dstore X ([(5, .double r1496_144), (0, .ref b), (1, .ref (E.2.1 8 0)), (2, .ref (E.2.1 9 0)), (3, .ref (E.2.1 10 0)), (4, .int x4)]) rfl (by decide) dL_law_1499 ?_
  refine cr_aload_n X 3 rfl dL_law_1501 ?_
  refine cr_callV X (As := []) (rest := []) (c_X9_lostShare_S Γ.2.1 E hEK S) ((cr_m0 E).at rfl rfl) rfl 0 gL_law_X9_lostShare rfl rfl rfl (by decide +kernel) ⟨Nat.le_of_ble_eq_true rfl, Nat.le_of_ble_eq_true rfl⟩ ⟨show 2 * j + 300 ≤ 601024 by omega, show 12 * j + 20000 ≤ 7293034 by omega⟩ rfl rfl (Nat.le_of_ble_eq_true rfl) dL_law_1502 (fun r1502_145 => ?_)
  show cr_P Γ E 9 _ (2 * j + 300) (12 * j + 20000) (cr_us S 9 r1502_145.2) 1505 ([(5, .double r1496_144), (0, .ref b), (1, .ref (E.2.1 8 0)), (2, .ref (E.2.1 9 0)), (3, .ref (E.2.1 10 0)), (4, .int x4)]) ([.double r1502_145.1]) _
  refine cr_bds (fun S1502_146 => ?_)
  refine cr_dstore X ([(7, .double r1502_145.1), (5, .double r1496_144), (0, .ref b), (1, .ref (E.2.1 8 0)), (2, .ref (E.2.1 9 0)), (3, .ref (E.2.1 10 0)), (4, .int x4)]) rfl (by decide) dL_law_1505 ?_
  refine cr_dload X 1 rfl dL_law_1507 ?_
  refine cr_dload X 0 rfl dL_law_1509 ?_
  refine cr_dcmp X dL_law_1511 ?_
  refine cr_if_eq X 1533 dL_law_1512 rfl ?_ ?_
  · refine cr_goto X 1550 dL_law_1533 rfl ?_
    refine cr_iinc0 X (x4 + 4) ([(4, .int ((x4 + 4))), (7, .double r1502_145.1), (5, .double r1496_144), (0, .ref b), (1, .ref (E.2.1 8 0)), (2, .ref (E.2.1 9 0)), (3, .ref (E.2.1 10 0))]) 6 rfl rfl rfl (by decide) dL_law_1550 ?_
    refine cr_goto X 23 dL_law_1553 rfl ?_
    refine cr_widen (2 * j + 300 + 2) (12 * j + 20000 + 12) (by omega) (by omega) ?_
    refine cr_sub (lv' := [(0, .ref b), (1, .ref (E.2.1 8 0)), (2, .ref (E.2.1 9 0)), (3, .ref (E.2.1 10 0)), (4, .int ((x4 + 4)))]) [3, 4, 5, 6, 0] rfl ?_
    exact hk23 S1502_146
  · refine cr_dload X 1 rfl dL_law_1515 ?_
    refine cr_dload X 1 rfl dL_law_1517 ?_
    refine cr_dcmp X dL_law_1519 ?_
    refine cr_if_eq X 1531 dL_law_1520 rfl ?_ ?_
    · refine cr_iconst X (0 : Int32) (by decide) dL_law_1531 ?_
      exact cr_none
    · refine cr_dload X 0 rfl dL_law_1523 ?_
      refine cr_dload X 0 rfl dL_law_1525 ?_
      refine cr_dcmp X dL_law_1527 ?_
      refine cr_if_ne X 1533 dL_law_1528 rfl ?_ ?_
      · refine cr_goto X 1550 dL_law_1533 rfl ?_
        refine cr_iinc0 X (x4 + 4) ([(4, .int ((x4 + 4))), (7, .double r1502_145.1), (5, .double r1496_144), (0, .ref b), (1, .ref (E.2.1 8 0)), (2, .ref (E.2.1 9 0)), (3, .ref (E.2.1 10 0))]) 6 rfl rfl rfl (by decide) dL_law_1550 ?_
        refine cr_goto X 23 dL_law_1553 rfl ?_
        refine cr_widen (2 * j + 300 + 2) (12 * j + 20000 + 12) (by omega) (by omega) ?_
        refine cr_sub (lv' := [(0, .ref b), (1, .ref (E.2.1 8 0)), (2, .ref (E.2.1 9 0)), (3, .ref (E.2.1 10 0)), (4, .int ((x4 + 4)))]) [3, 4, 5, 6, 0] rfl ?_
        exact hk23 S1502_146
      · refine cr_iconst X (0 : Int32) (by decide) dL_law_1531 ?_
        exact cr_none
set_option maxHeartbeats 4000000 in
set_option maxRecDepth 100000 in
theorem b_L_law_1536 {Γ : cr_C} {E : cr_E} (X : cr_X Γ E cL_law 9 RL wsL_law room_1 (some .boolean)) (Yl : Γ.2.1.stackTraces = false) (NC : cr_NC Γ.2.2.2.2.1) {b L : Nat} {xs : Nat → Int32} (SC : va_X b L xs Γ.2.2.2.2.1 Γ.2.2.2.2.1.heap ∧ b < Γ.2.2.2.2.1.heap.size ∧ ¬ E.2.2.1 b) {Φ : Unit → (State → Prop) → Prop} (j : Nat) (hj : j ≤ 511) (x4 : Int32) (k23 : Int32 → cr_S → Option Unit) (hk23 : ∀ S9, cr_P Γ E 9 Φ (2 * j + 300 + 2) (12 * j + 20000 + 12) S9 23 [(0, .ref b), (1, .ref (E.2.1 8 0)), (2, .ref (E.2.1 9 0)), (3, .ref (E.2.1 10 0)), (4, .int (x4 + 4))] [] (k23 (x4 + 4) S9)) (S : cr_S) : cr_P Γ E 9 Φ (2 * j + 300) (12 * j + 20000) S 1536 ([(0, .ref b), (1, .ref (E.2.1 8 0)), (2, .ref (E.2.1 9 0)), (3, .ref (E.2.1 10 0)), (4, .int x4)]) [] (s_L_law_1536 xs L k23 x4 S) := by
  have hEK := X.2.2.2.2.2.2.1
  unfold s_L_law_1536
  refine cr_aload_n X 1 rfl dL_law_1536 ?_
  refine cr_callV X (As := []) (rest := []) (c_X8_digest Γ.2.1 E hEK S) ((cr_b0 E).at rfl rfl) rfl 0 gL_law_X8_digest rfl rfl rfl (by decide +kernel) ⟨Nat.le_of_ble_eq_true rfl, Nat.le_of_ble_eq_true rfl⟩ ⟨show 2 * j + 300 ≤ 601024 by omega, show 12 * j + 20000 ≤ 7293034 by omega⟩ rfl rfl (Nat.le_of_ble_eq_true rfl) dL_law_1537 (fun r1537_149 => ?_)
  show cr_P Γ E 9 _ (2 * j + 300) (12 * j + 20000) r1537_149.2 1540 ([(0, .ref b), (1, .ref (E.2.1 8 0)), (2, .ref (E.2.1 9 0)), (3, .ref (E.2.1 10 0)), (4, .int x4)]) ([.long r1537_149.1]) _
  refine cr_aload_n X 2 rfl dL_law_1540 ?_
  refine cr_callV X (As := []) (rest := [.long r1537_149.1]) (c_X9_digest Γ.2.1 E hEK r1537_149.2) ((cr_m0 E).at rfl rfl) rfl 0 gL_law_X9_digest rfl rfl rfl (by decide +kernel) ⟨Nat.le_of_ble_eq_true rfl, Nat.le_of_ble_eq_true rfl⟩ ⟨show 2 * j + 300 ≤ 601024 by omega, show 12 * j + 20000 ≤ 7293034 by omega⟩ rfl rfl (Nat.le_of_ble_eq_true rfl) dL_law_1541 (fun r1541_150 => ?_)
  show cr_P Γ E 9 _ (2 * j + 300) (12 * j + 20000) r1541_150.2 1544 ([(0, .ref b), (1, .ref (E.2.1 8 0)), (2, .ref (E.2.1 9 0)), (3, .ref (E.2.1 10 0)), (4, .int x4)]) ([.long r1541_150.1, .long r1537_149.1]) _
  refine cr_lcmp X dL_law_1544 ?_
  refine cr_if_eq X 1550 dL_law_1545 rfl ?_ ?_
  · refine cr_iinc0 X (x4 + 4) ([(4, .int ((x4 + 4))), (0, .ref b), (1, .ref (E.2.1 8 0)), (2, .ref (E.2.1 9 0)), (3, .ref (E.2.1 10 0))]) 4 rfl rfl rfl (by decide) dL_law_1550 ?_
    refine cr_goto X 23 dL_law_1553 rfl ?_
    refine cr_widen (2 * j + 300 + 2) (12 * j + 20000 + 12) (by omega) (by omega) ?_
    refine cr_sub (lv' := [(0, .ref b), (1, .ref (E.2.1 8 0)), (2, .ref (E.2.1 9 0)), (3, .ref (E.2.1 10 0)), (4, .int ((x4 + 4)))]) [1, 2, 3, 4, 0] rfl ?_
    exact hk23 r1541_150.2
  · refine cr_iconst X (0 : Int32) (by decide) dL_law_1548 ?_
    exact cr_none
set_option maxHeartbeats 4000000 in
set_option maxRecDepth 100000 in
theorem b_L_law_23 {Γ : cr_C} {E : cr_E} (X : cr_X Γ E cL_law 9 RL wsL_law room_1 (some .boolean)) (Yl : Γ.2.1.stackTraces = false) (NC : cr_NC Γ.2.2.2.2.1) {b L : Nat} {xs : Nat → Int32} (SC : va_X b L xs Γ.2.2.2.2.1 Γ.2.2.2.2.1.heap ∧ b < Γ.2.2.2.2.1.heap.size ∧ ¬ E.2.2.1 b) {Φ : Unit → (State → Prop) → Prop} (hL : L ≤ 2048) (hend : ∀ (kc ks : Nat) (S : cr_S) (lv : List (Nat × Value)), kc ≤ 601024 → ks ≤ 7293034 → cr_P Γ E 9 Φ kc ks S 1557 lv [.int (1 : Int32)] (some ())) : ∀ (n j : Nat) (x4 : Int32) (S : cr_S), j ≤ 512 → x4 = nI (4 * j) → cr_P Γ E 9 Φ (2 * j + 300) (12 * j + 20000) S 23 ([(0, .ref b), (1, .ref (E.2.1 8 0)), (2, .ref (E.2.1 9 0)), (3, .ref (E.2.1 10 0)), (4, .int x4)]) [] (s_L_law_23 xs L n x4 S) := by
  have hEK := X.2.2.2.2.2.2.1
  intro n
  induction n with
  | zero => intro j x4 S _ _; exact cr_none
  | succ n ih =>
    intro j x4 S hj0 hx4
    rw [s_L_law_23]
    refine cr_iload X 4 rfl dL_law_23 ?_
    refine cr_aload_n X 0 rfl dL_law_25 ?_
    refine cr_slen X SC dL_law_26 ?_
    refine cr_iconst X (4 : Int32) (by decide) dL_law_27 ?_
    refine cr_isub X dL_law_28 ?_
    refine cr_icmp_gth X 1556 dL_law_29 rfl (fun hc29 => ?_) (fun hc29 => ?_)
    · refine cr_iconst X (1 : Int32) (by decide) dL_law_1556 ?_
      exact hend _ _ _ _ (by omega) (by omega)
    · have hj : j ≤ 511 := cr_law_j hL hj0 hx4 hc29
      have hk : ∀ S9, cr_P Γ E 9 Φ (2 * j + 300 + 2) (12 * j + 20000 + 12) S9 23 [(0, .ref b), (1, .ref (E.2.1 8 0)), (2, .ref (E.2.1 9 0)), (3, .ref (E.2.1 10 0)), (4, .int (x4 + 4))] [] (s_L_law_23 xs L n (x4 + 4) S9) := fun S9 => by
        have h9 := ih (j + 1) (x4 + 4) S9 (by omega) (by rw [hx4]; exact nI_add (4 * j) 4)
        rw [show 2 * (j + 1) + 300 = 2 * j + 300 + 2 by omega, show 12 * (j + 1) + 20000 = 12 * j + 20000 + 12 by omega] at h9
        exact h9
      refine cr_aload_n X 0 rfl dL_law_32 ?_
      refine cr_iload X 4 rfl dL_law_33 ?_
      refine cr_sald X SC dL_law_35 ?_
      refine cr_bipush X (31 : Int32) (by decide) dL_law_36 ?_
      refine cr_iand X dL_law_38 ?_
      refine cr_ite (fun h39_0 => ?_) (fun n39_0 => ?_)
      · refine cr_tin X 0 160 h39_0 dL_law_39 (by decide) rfl rfl ?_
        refine cr_sub (lv' := [(0, .ref b), (1, .ref (E.2.1 8 0)), (2, .ref (E.2.1 9 0)), (3, .ref (E.2.1 10 0)), (4, .int x4)]) [0, 1, 2, 3, 4] rfl ?_
        exact b_L_law_160 X Yl NC SC j hj x4 (fun x4a Sa => s_L_law_23 xs L n x4a Sa) hk S
      · refine cr_ite (fun h39_1 => ?_) (fun n39_1 => ?_)
        · refine cr_tin X 1 240 h39_1 dL_law_39 (by decide) rfl rfl ?_
          refine cr_sub (lv' := [(0, .ref b), (1, .ref (E.2.1 8 0)), (2, .ref (E.2.1 9 0)), (3, .ref (E.2.1 10 0)), (4, .int x4)]) [0, 1, 2, 3, 4] rfl ?_
          exact b_L_law_240 X Yl NC SC j hj x4 (fun x4a Sa => s_L_law_23 xs L n x4a Sa) hk S
        · refine cr_ite (fun h39_2 => ?_) (fun n39_2 => ?_)
          · refine cr_tin X 2 308 h39_2 dL_law_39 (by decide) rfl rfl ?_
            refine cr_sub (lv' := [(0, .ref b), (1, .ref (E.2.1 8 0)), (2, .ref (E.2.1 9 0)), (3, .ref (E.2.1 10 0)), (4, .int x4)]) [0, 1, 2, 3, 4] rfl ?_
            exact b_L_law_308 X Yl NC SC j hj x4 (fun x4a Sa => s_L_law_23 xs L n x4a Sa) hk S
          · refine cr_ite (fun h39_3 => ?_) (fun n39_3 => ?_)
            · refine cr_tin X 3 376 h39_3 dL_law_39 (by decide) rfl rfl ?_
              refine cr_sub (lv' := [(0, .ref b), (1, .ref (E.2.1 8 0)), (2, .ref (E.2.1 9 0)), (3, .ref (E.2.1 10 0)), (4, .int x4)]) [0, 1, 2, 3, 4] rfl ?_
              exact b_L_law_376 X Yl NC SC j hj x4 (fun x4a Sa => s_L_law_23 xs L n x4a Sa) hk S
            · refine cr_ite (fun h39_4 => ?_) (fun n39_4 => ?_)
              · refine cr_tin X 4 444 h39_4 dL_law_39 (by decide) rfl rfl ?_
                refine cr_sub (lv' := [(0, .ref b), (1, .ref (E.2.1 8 0)), (2, .ref (E.2.1 9 0)), (3, .ref (E.2.1 10 0)), (4, .int x4)]) [0, 1, 2, 3, 4] rfl ?_
                exact b_L_law_444 X Yl NC SC j hj x4 (fun x4a Sa => s_L_law_23 xs L n x4a Sa) hk S
              · refine cr_ite (fun h39_5 => ?_) (fun n39_5 => ?_)
                · refine cr_tin X 5 512 h39_5 dL_law_39 (by decide) rfl rfl ?_
                  refine cr_sub (lv' := [(0, .ref b), (1, .ref (E.2.1 8 0)), (2, .ref (E.2.1 9 0)), (3, .ref (E.2.1 10 0)), (4, .int x4)]) [0, 1, 2, 3, 4] rfl ?_
                  exact b_L_law_512 X Yl NC SC j hj x4 (fun x4a Sa => s_L_law_23 xs L n x4a Sa) hk S
                · refine cr_ite (fun h39_6 => ?_) (fun n39_6 => ?_)
                  · refine cr_tin X 6 568 h39_6 dL_law_39 (by decide) rfl rfl ?_
                    refine cr_sub (lv' := [(0, .ref b), (1, .ref (E.2.1 8 0)), (2, .ref (E.2.1 9 0)), (3, .ref (E.2.1 10 0)), (4, .int x4)]) [0, 1, 2, 3, 4] rfl ?_
                    exact b_L_law_568 X Yl NC SC j hj x4 (fun x4a Sa => s_L_law_23 xs L n x4a Sa) hk S
                  · refine cr_ite (fun h39_7 => ?_) (fun n39_7 => ?_)
                    · refine cr_tin X 7 624 h39_7 dL_law_39 (by decide) rfl rfl ?_
                      refine cr_sub (lv' := [(0, .ref b), (1, .ref (E.2.1 8 0)), (2, .ref (E.2.1 9 0)), (3, .ref (E.2.1 10 0)), (4, .int x4)]) [0, 1, 2, 3, 4] rfl ?_
                      exact b_L_law_624 X Yl NC SC j hj x4 (fun x4a Sa => s_L_law_23 xs L n x4a Sa) hk S
                    · refine cr_ite (fun h39_8 => ?_) (fun n39_8 => ?_)
                      · refine cr_tin X 8 680 h39_8 dL_law_39 (by decide) rfl rfl ?_
                        refine cr_sub (lv' := [(0, .ref b), (1, .ref (E.2.1 8 0)), (2, .ref (E.2.1 9 0)), (3, .ref (E.2.1 10 0)), (4, .int x4)]) [0, 1, 2, 3, 4] rfl ?_
                        exact b_L_law_680 X Yl NC SC j hj x4 (fun x4a Sa => s_L_law_23 xs L n x4a Sa) hk S
                      · refine cr_ite (fun h39_9 => ?_) (fun n39_9 => ?_)
                        · refine cr_tin X 9 736 h39_9 dL_law_39 (by decide) rfl rfl ?_
                          refine cr_sub (lv' := [(0, .ref b), (1, .ref (E.2.1 8 0)), (2, .ref (E.2.1 9 0)), (3, .ref (E.2.1 10 0)), (4, .int x4)]) [0, 1, 2, 3, 4] rfl ?_
                          exact b_L_law_736 X Yl NC SC j hj x4 (fun x4a Sa => s_L_law_23 xs L n x4a Sa) hk S
                        · refine cr_ite (fun h39_10 => ?_) (fun n39_10 => ?_)
                          · refine cr_tin X 10 749 h39_10 dL_law_39 (by decide) rfl rfl ?_
                            refine cr_sub (lv' := [(0, .ref b), (1, .ref (E.2.1 8 0)), (2, .ref (E.2.1 9 0)), (3, .ref (E.2.1 10 0)), (4, .int x4)]) [0, 1, 2, 3, 4] rfl ?_
                            exact b_L_law_749 X Yl NC SC j hj x4 (fun x4a Sa => s_L_law_23 xs L n x4a Sa) hk S
                          · refine cr_ite (fun h39_11 => ?_) (fun n39_11 => ?_)
                            · refine cr_tin X 11 762 h39_11 dL_law_39 (by decide) rfl rfl ?_
                              refine cr_sub (lv' := [(0, .ref b), (1, .ref (E.2.1 8 0)), (2, .ref (E.2.1 9 0)), (3, .ref (E.2.1 10 0)), (4, .int x4)]) [0, 1, 2, 3, 4] rfl ?_
                              exact b_L_law_762 X Yl NC SC j hj x4 (fun x4a Sa => s_L_law_23 xs L n x4a Sa) hk S
                            · refine cr_ite (fun h39_12 => ?_) (fun n39_12 => ?_)
                              · refine cr_tin X 12 806 h39_12 dL_law_39 (by decide) rfl rfl ?_
                                refine cr_sub (lv' := [(0, .ref b), (1, .ref (E.2.1 8 0)), (2, .ref (E.2.1 9 0)), (3, .ref (E.2.1 10 0)), (4, .int x4)]) [0, 1, 2, 3, 4] rfl ?_
                                exact b_L_law_806 X Yl NC SC j hj x4 (fun x4a Sa => s_L_law_23 xs L n x4a Sa) hk S
                              · refine cr_ite (fun h39_13 => ?_) (fun n39_13 => ?_)
                                · refine cr_tin X 13 850 h39_13 dL_law_39 (by decide) rfl rfl ?_
                                  refine cr_sub (lv' := [(0, .ref b), (1, .ref (E.2.1 8 0)), (2, .ref (E.2.1 9 0)), (3, .ref (E.2.1 10 0)), (4, .int x4)]) [0, 1, 2, 3, 4] rfl ?_
                                  exact b_L_law_850 X Yl NC SC j hj x4 (fun x4a Sa => s_L_law_23 xs L n x4a Sa) hk S
                                · refine cr_ite (fun h39_14 => ?_) (fun n39_14 => ?_)
                                  · refine cr_tin X 14 918 h39_14 dL_law_39 (by decide) rfl rfl ?_
                                    refine cr_sub (lv' := [(0, .ref b), (1, .ref (E.2.1 8 0)), (2, .ref (E.2.1 9 0)), (3, .ref (E.2.1 10 0)), (4, .int x4)]) [0, 1, 2, 3, 4] rfl ?_
                                    exact b_L_law_918 X Yl NC SC j hj x4 (fun x4a Sa => s_L_law_23 xs L n x4a Sa) hk S
                                  · refine cr_ite (fun h39_15 => ?_) (fun n39_15 => ?_)
                                    · refine cr_tin X 15 986 h39_15 dL_law_39 (by decide) rfl rfl ?_
                                      refine cr_sub (lv' := [(0, .ref b), (1, .ref (E.2.1 8 0)), (2, .ref (E.2.1 9 0)), (3, .ref (E.2.1 10 0)), (4, .int x4)]) [0, 1, 2, 3, 4] rfl ?_
                                      exact b_L_law_986 X Yl NC SC j hj x4 (fun x4a Sa => s_L_law_23 xs L n x4a Sa) hk S
                                    · refine cr_ite (fun h39_16 => ?_) (fun n39_16 => ?_)
                                      · refine cr_tin X 16 1054 h39_16 dL_law_39 (by decide) rfl rfl ?_
                                        refine cr_sub (lv' := [(0, .ref b), (1, .ref (E.2.1 8 0)), (2, .ref (E.2.1 9 0)), (3, .ref (E.2.1 10 0)), (4, .int x4)]) [0, 1, 2, 3, 4] rfl ?_
                                        exact b_L_law_1054 X Yl NC SC j hj x4 (fun x4a Sa => s_L_law_23 xs L n x4a Sa) hk S
                                      · refine cr_ite (fun h39_17 => ?_) (fun n39_17 => ?_)
                                        · refine cr_tin X 17 1110 h39_17 dL_law_39 (by decide) rfl rfl ?_
                                          refine cr_sub (lv' := [(0, .ref b), (1, .ref (E.2.1 8 0)), (2, .ref (E.2.1 9 0)), (3, .ref (E.2.1 10 0)), (4, .int x4)]) [0, 1, 2, 3, 4] rfl ?_
                                          exact b_L_law_1110 X Yl NC SC j hj x4 (fun x4a Sa => s_L_law_23 xs L n x4a Sa) hk S
                                        · refine cr_ite (fun h39_18 => ?_) (fun n39_18 => ?_)
                                          · refine cr_tin X 18 1166 h39_18 dL_law_39 (by decide) rfl rfl ?_
                                            refine cr_sub (lv' := [(0, .ref b), (1, .ref (E.2.1 8 0)), (2, .ref (E.2.1 9 0)), (3, .ref (E.2.1 10 0)), (4, .int x4)]) [0, 1, 2, 3, 4] rfl ?_
                                            exact b_L_law_1166 X Yl NC SC j hj x4 (fun x4a Sa => s_L_law_23 xs L n x4a Sa) hk S
                                          · refine cr_ite (fun h39_19 => ?_) (fun n39_19 => ?_)
                                            · refine cr_tin X 19 1222 h39_19 dL_law_39 (by decide) rfl rfl ?_
                                              refine cr_sub (lv' := [(0, .ref b), (1, .ref (E.2.1 8 0)), (2, .ref (E.2.1 9 0)), (3, .ref (E.2.1 10 0)), (4, .int x4)]) [0, 1, 2, 3, 4] rfl ?_
                                              exact b_L_law_1222 X Yl NC SC j hj x4 (fun x4a Sa => s_L_law_23 xs L n x4a Sa) hk S
                                            · refine cr_ite (fun h39_20 => ?_) (fun n39_20 => ?_)
                                              · refine cr_tin X 20 1290 h39_20 dL_law_39 (by decide) rfl rfl ?_
                                                refine cr_sub (lv' := [(0, .ref b), (1, .ref (E.2.1 8 0)), (2, .ref (E.2.1 9 0)), (3, .ref (E.2.1 10 0)), (4, .int x4)]) [0, 1, 2, 3, 4] rfl ?_
                                                exact b_L_law_1290 X Yl NC SC j hj x4 (fun x4a Sa => s_L_law_23 xs L n x4a Sa) hk S
                                              · refine cr_ite (fun h39_21 => ?_) (fun n39_21 => ?_)
                                                · refine cr_tin X 21 1358 h39_21 dL_law_39 (by decide) rfl rfl ?_
                                                  refine cr_sub (lv' := [(0, .ref b), (1, .ref (E.2.1 8 0)), (2, .ref (E.2.1 9 0)), (3, .ref (E.2.1 10 0)), (4, .int x4)]) [0, 1, 2, 3, 4] rfl ?_
                                                  exact b_L_law_1358 X Yl NC SC j hj x4 (fun x4a Sa => s_L_law_23 xs L n x4a Sa) hk S
                                                · refine cr_ite (fun h39_22 => ?_) (fun n39_22 => ?_)
                                                  · refine cr_tin X 22 1371 h39_22 dL_law_39 (by decide) rfl rfl ?_
                                                    refine cr_sub (lv' := [(0, .ref b), (1, .ref (E.2.1 8 0)), (2, .ref (E.2.1 9 0)), (3, .ref (E.2.1 10 0)), (4, .int x4)]) [0, 1, 2, 3, 4] rfl ?_
                                                    exact b_L_law_1371 X Yl NC SC j hj x4 (fun x4a Sa => s_L_law_23 xs L n x4a Sa) hk S
                                                  · refine cr_ite (fun h39_23 => ?_) (fun n39_23 => ?_)
                                                    · refine cr_tin X 23 1439 h39_23 dL_law_39 (by decide) rfl rfl ?_
                                                      refine cr_sub (lv' := [(0, .ref b), (1, .ref (E.2.1 8 0)), (2, .ref (E.2.1 9 0)), (3, .ref (E.2.1 10 0)), (4, .int x4)]) [0, 1, 2, 3, 4] rfl ?_
                                                      exact b_L_law_1439 X Yl NC SC j hj x4 (fun x4a Sa => s_L_law_23 xs L n x4a Sa) hk S
                                                    · refine cr_ite (fun h39_24 => ?_) (fun n39_24 => ?_)
                                                      · refine cr_tin X 24 1452 h39_24 dL_law_39 (by decide) rfl rfl ?_
                                                        refine cr_sub (lv' := [(0, .ref b), (1, .ref (E.2.1 8 0)), (2, .ref (E.2.1 9 0)), (3, .ref (E.2.1 10 0)), (4, .int x4)]) [0, 1, 2, 3, 4] rfl ?_
                                                        exact b_L_law_1452 X Yl NC SC j hj x4 (fun x4a Sa => s_L_law_23 xs L n x4a Sa) hk S
                                                      · refine cr_ite (fun h39_25 => ?_) (fun n39_25 => ?_)
                                                        · refine cr_tin X 25 1495 h39_25 dL_law_39 (by decide) rfl rfl ?_
                                                          refine cr_sub (lv' := [(0, .ref b), (1, .ref (E.2.1 8 0)), (2, .ref (E.2.1 9 0)), (3, .ref (E.2.1 10 0)), (4, .int x4)]) [0, 1, 2, 3, 4] rfl ?_
                                                          exact b_L_law_1495 X Yl NC SC j hj x4 (fun x4a Sa => s_L_law_23 xs L n x4a Sa) hk S
                                                        · refine cr_ite (fun h39_26 => ?_) (fun n39_26 => ?_)
                                                          · refine cr_tin X 26 1536 h39_26 dL_law_39 (by decide) rfl rfl ?_
                                                            refine cr_sub (lv' := [(0, .ref b), (1, .ref (E.2.1 8 0)), (2, .ref (E.2.1 9 0)), (3, .ref (E.2.1 10 0)), (4, .int x4)]) [0, 1, 2, 3, 4] rfl ?_
                                                            exact b_L_law_1536 X Yl NC SC j hj x4 (fun x4a Sa => s_L_law_23 xs L n x4a Sa) hk S
                                                          · refine cr_tout X 1550 dL_law_39 (by have q0 := lv_neT (a := 0) n39_0 rfl; have q1 := lv_neT (a := 1) n39_1 rfl; have q2 := lv_neT (a := 2) n39_2 rfl; have q3 := lv_neT (a := 3) n39_3 rfl; have q4 := lv_neT (a := 4) n39_4 rfl; have q5 := lv_neT (a := 5) n39_5 rfl; have q6 := lv_neT (a := 6) n39_6 rfl; have q7 := lv_neT (a := 7) n39_7 rfl; have q8 := lv_neT (a := 8) n39_8 rfl; have q9 := lv_neT (a := 9) n39_9 rfl; have q10 := lv_neT (a := 10) n39_10 rfl; have q11 := lv_neT (a := 11) n39_11 rfl; have q12 := lv_neT (a := 12) n39_12 rfl; have q13 := lv_neT (a := 13) n39_13 rfl; have q14 := lv_neT (a := 14) n39_14 rfl; have q15 := lv_neT (a := 15) n39_15 rfl; have q16 := lv_neT (a := 16) n39_16 rfl; have q17 := lv_neT (a := 17) n39_17 rfl; have q18 := lv_neT (a := 18) n39_18 rfl; have q19 := lv_neT (a := 19) n39_19 rfl; have q20 := lv_neT (a := 20) n39_20 rfl; have q21 := lv_neT (a := 21) n39_21 rfl; have q22 := lv_neT (a := 22) n39_22 rfl; have q23 := lv_neT (a := 23) n39_23 rfl; have q24 := lv_neT (a := 24) n39_24 rfl; have q25 := lv_neT (a := 25) n39_25 rfl; have q26 := lv_neT (a := 26) n39_26 rfl; omega) rfl ?_
                                                            refine cr_iinc0 X (x4 + 4) ([(4, .int ((x4 + 4))), (0, .ref b), (1, .ref (E.2.1 8 0)), (2, .ref (E.2.1 9 0)), (3, .ref (E.2.1 10 0))]) 4 rfl rfl rfl (by decide) dL_law_1550 ?_
                                                            refine cr_goto X 23 dL_law_1553 rfl ?_
                                                            refine cr_sub (lv' := [(0, .ref b), (1, .ref (E.2.1 8 0)), (2, .ref (E.2.1 9 0)), (3, .ref (E.2.1 10 0)), (4, .int ((x4 + 4)))]) [1, 2, 3, 4, 0] rfl ?_
                                                            exact cr_widen (2 * j + 300 + 2) (12 * j + 20000 + 12) (by omega) (by omega) (hk S)
