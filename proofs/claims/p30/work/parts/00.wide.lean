/-! Of the library's laws of floats this proof takes some (the first use of one, so that a round is read over the whole library from here on). -/
theorem cr_fl_b32 : Jvm.FP.Core.Good Jvm.FP.Core.b32 := Jvm.FP.Core.good_b32
theorem cr_fl_b64 : Jvm.FP.Core.Good Jvm.FP.Core.b64 := Jvm.FP.Core.good_b64
