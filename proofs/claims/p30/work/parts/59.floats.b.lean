/-! ### floats: bits of a float and of a double -/
theorem t_D : FP.Core.b64.tails = 4503599627370496 := by decide +kernel
theorem qm_D : FP.Core.b64.qmin = -1074 := by decide +kernel
theorem p_D : FP.Core.b64.p = 53 := rfl
theorem p2_D : 2 ^ FP.Core.b64.p = 9007199254740992 := by decide +kernel
theorem v1_D : FP.Core.val64 FP.dconst1 = .fin false FP.Core.b64.tails (-52) := by decide +kernel
theorem v0_D : FP.Core.val64 FP.dconst0 = .fin false 0 FP.Core.b64.qmin := by decide +kernel
theorem v2_D : FP.Core.val64 4611686018427387904 = .fin false FP.Core.b64.tails (-51) := by decide +kernel
theorem vT_D : FP.Core.val64 4841369599423283200 = .fin false FP.Core.b64.tails 0 := by decide +kernel
theorem nn_D {x : UInt64} {s : Bool} {c : Nat} {q : Int} (h : FP.Core.val64 x = .fin s c q) : FP.Core.val64 x ≠ .nan := by
  rw [h]
  exact FP.Core.Datum.noConfusion
theorem gd_D {x : UInt64} (h : FP.Core.val64 x ≠ .nan) : decide (x &&& 0x7fffffffffffffff ≤ 0x7ff0000000000000) = true := by
  refine decide_eq_true (UInt64.le_iff_toNat_le.mpr ?_)
  rw [FP.Core.mask_toNat]
  exact (FP.Core.ne_nan x).mp h
theorem bits_D {x : UInt64} {c : Nat} {q : Int} (h : FP.Core.val64 x = .fin false c q) (hc1 : 4503599627370496 ≤ c) : x.toNat = ((q + 1074).toNat + 1) * 4503599627370496 + (c - 4503599627370496) := by
  have h1 : x.toNat = FP.Core.encode FP.Core.b64 (.fin false c q) := by
    rw [← h, ← FP.Core.toNat_of64 (FP.Core.val64_fits x), FP.Core.of64_val64 (nn_D h)]
  rw [h1]
  show (if c < FP.Core.b64.tails then _ else ((false.toNat * FP.Core.b64.exps + ((q - FP.Core.b64.qmin).toNat + 1)) * FP.Core.b64.tails + (c - FP.Core.b64.tails))) = _
  rw [t_D, if_neg (by omega), qm_D, show false.toNat = 0 from rfl, Nat.zero_mul, Nat.zero_add, show q - -1074 = q + 1074 by omega]
theorem or_D {a t : Nat} (ha : a < 2048) (ht : t < 4503599627370496) : (lN a <<< (((52 : Int32)).toInt64 &&& 63)) ||| lN t = lN (a * 4503599627370496 + t) := by
  apply Int64.toBitVec_inj.mp
  rw [Int64.toBitVec_or, Int64.toBitVec_shiftLeft, show ((((52 : Int32)).toInt64 &&& 63) : Int64).toBitVec.smod 64 = 52#64 from by decide]
  apply BitVec.eq_of_toNat_eq
  have h1 : (lN a).toBitVec = BitVec.ofNat 64 a := rfl
  have h2 : (lN t).toBitVec = BitVec.ofNat 64 t := rfl
  have h3 : (lN (a * 4503599627370496 + t)).toBitVec = BitVec.ofNat 64 (a * 4503599627370496 + t) := rfl
  rw [h1, h2, h3, BitVec.toNat_or, BitVec.shiftLeft_eq', BitVec.toNat_shiftLeft, BitVec.toNat_ofNat, BitVec.toNat_ofNat, BitVec.toNat_ofNat, BitVec.toNat_ofNat, show 52 % 2 ^ 64 = 52 from rfl, Nat.mod_eq_of_lt (show a < 2 ^ 64 by omega), Nat.mod_eq_of_lt (show t < 2 ^ 64 by omega), Nat.mod_eq_of_lt (show a * 4503599627370496 + t < 2 ^ 64 by omega), Nat.shiftLeft_eq, Nat.mod_eq_of_lt (show a * 2 ^ 52 < 2 ^ 64 by omega), ← Nat.shiftLeft_eq, ← Nat.shiftLeft_add_eq_or_of_lt (show t < 2 ^ 52 by omega), Nat.shiftLeft_eq]
theorem ti_D (x : UInt64) : x.toInt64 = lN x.toNat := by
  apply Int64.toBitVec_inj.mp
  have h1 : (lN x.toNat).toBitVec = BitVec.ofNat 64 x.toNat := rfl
  rw [h1]
  apply BitVec.eq_of_toNat_eq
  rw [BitVec.toNat_ofNat, Nat.mod_eq_of_lt x.toNat_lt]
  rfl
theorem lt1_D {x : UInt64} {c : Nat} {q : Int} {op : CmpOp} (h : FP.Core.val64 x = .fin false c q) (hc2 : c < 9007199254740992) (hq : q < -52) : ¬ 0 ≤ Op.cmpValue (FP.dcmp x FP.dconst1) op := by
  have h1 : FP.dcmp x FP.dconst1 = some .lt := by
    show FP.Core.order (FP.Core.val64 x) (FP.Core.val64 FP.dconst1) = _
    rw [h, v1_D, fl_lt flW_64 (by rw [p2_D]; exact hc2) hq]
  rw [h1]
  cases op <;> decide
theorem ge1_D {x : UInt64} {c : Nat} {q : Int} {op : CmpOp} (h : FP.Core.val64 x = .fin false c q) (hc1 : 4503599627370496 ≤ c) (hq : -52 ≤ q) : 0 ≤ Op.cmpValue (FP.dcmp x FP.dconst1) op := by
  have h1 : FP.dcmp x FP.dconst1 = some .gt ∨ FP.dcmp x FP.dconst1 = some .eq := by
    show FP.Core.order (FP.Core.val64 x) (FP.Core.val64 FP.dconst1) = _ ∨ FP.Core.order (FP.Core.val64 x) (FP.Core.val64 FP.dconst1) = _
    rw [h, v1_D]
    exact fl_ge (by rw [t_D]; exact hc1) hq
  rcases h1 with h1 | h1 <;> rw [h1] <;> cases op <;> decide
theorem gt0_D {x : UInt64} {c : Nat} {q : Int} {op : CmpOp} (h : FP.Core.val64 x = .fin false c q) (hc1 : 4503599627370496 ≤ c) : 0 < Op.cmpValue (FP.dcmp x FP.dconst0) op := by
  have h1 : FP.dcmp x FP.dconst0 = some .gt := by
    show FP.Core.order (FP.Core.val64 x) (FP.Core.val64 FP.dconst0) = _
    rw [h, v0_D, fl_gt0 (by omega)]
  rw [h1]
  cases op <;> decide
theorem mul2_D {x : UInt64} {c : Nat} {q : Int} (h : FP.Core.val64 x = .fin false c q) (hc1 : 4503599627370496 ≤ c) (hc2 : c < 9007199254740992) (hq1 : -100 ≤ q) (hq2 : q ≤ 50) : FP.Core.val64 (FP.dmul x 4611686018427387904) = .fin false c (q + 1) := by
  rw [FP.Core.val64_dmul, h, v2_D]
  exact fl_mulp flW_64 (by rw [t_D]; exact hc1) (by rw [p2_D]; exact hc2) (by rw [p_D]; omega) (by rw [qm_D]; omega) (by have h9 := flW_64.2.2; omega)
theorem frac_D {x : UInt64} {c : Nat} (h : FP.Core.val64 x = .fin false c (-52)) (hc1 : 4503599627370496 ≤ c) (hc2 : c < 9007199254740992) : cr_ndsub x FP.dconst1 = true ∧ cr_ndmul (FP.dsub x FP.dconst1) 4841369599423283200 = true ∧ FP.d2l (FP.dmul (FP.dsub x FP.dconst1) 4841369599423283200) = lN (c - 4503599627370496) := by
  have hs : FP.Core.val64 (FP.dsub x FP.dconst1) = FP.Core.round FP.Core.b64 (.fin false (c - 4503599627370496) (-((FP.Core.b64.p : Int) - 1))) := by
    have h9 := FP.Core.val64_dsub x FP.dconst1
    rw [h, v1_D, fl_sub1 (by rw [t_D]; exact hc1), t_D] at h9
    exact h9
  have hm : FP.Core.val64 (FP.dmul (FP.dsub x FP.dconst1) 4841369599423283200) = FP.Core.round FP.Core.b64 (FP.Core.exactProduct (FP.Core.round FP.Core.b64 (.fin false (c - 4503599627370496) (-((FP.Core.b64.p : Int) - 1)))) (.fin false FP.Core.b64.tails 0)) := by
    have h9 := FP.Core.val64_dmul (FP.dsub x FP.dconst1) 4841369599423283200
    rw [hs, vT_D] at h9
    exact h9
  obtain ⟨⟨c3, q3, e3⟩, ⟨c4, q4, e4⟩, e5⟩ := fl_frac (t := c - 4503599627370496) (lo := -2 ^ 63) (hi := 2 ^ 63 - 1) flW_64 (by rw [t_D]; omega) (by decide) (by omega)
  refine ⟨gd_D (by rw [hs, e3]; exact FP.Core.Datum.noConfusion), gd_D (by rw [hm, e4]; exact FP.Core.Datum.noConfusion), ?_⟩
  show Int64.ofInt (FP.Core.toInt (-2 ^ 63) (2 ^ 63 - 1) (FP.Core.val64 (FP.dmul (FP.dsub x FP.dconst1) 4841369599423283200))) = _
  rw [hm, e5]
  exact Int64.ofInt_eq_ofNat
theorem t_F : FP.Core.b32.tails = 8388608 := by decide +kernel
theorem qm_F : FP.Core.b32.qmin = -149 := by decide +kernel
theorem p_F : FP.Core.b32.p = 24 := rfl
theorem p2_F : 2 ^ FP.Core.b32.p = 16777216 := by decide +kernel
theorem v1_F : FP.Core.val32 FP.fconst1 = .fin false FP.Core.b32.tails (-23) := by decide +kernel
theorem v0_F : FP.Core.val32 FP.fconst0 = .fin false 0 FP.Core.b32.qmin := by decide +kernel
theorem v2_F : FP.Core.val32 FP.fconst2 = .fin false FP.Core.b32.tails (-22) := by decide +kernel
theorem vT_F : FP.Core.val32 1258291200 = .fin false FP.Core.b32.tails 0 := by decide +kernel
theorem nn_F {x : UInt32} {s : Bool} {c : Nat} {q : Int} (h : FP.Core.val32 x = .fin s c q) : FP.Core.val32 x ≠ .nan := by
  rw [h]
  exact FP.Core.Datum.noConfusion
theorem gd_F {x : UInt32} (h : FP.Core.val32 x ≠ .nan) : decide (x &&& 0x7fffffff ≤ 0x7f800000) = true := by
  refine decide_eq_true (UInt32.le_iff_toNat_le.mpr ?_)
  rw [FP.Core.mask_toNat32]
  exact (FP.Core.ne_nan32 x).mp h
theorem bits_F {x : UInt32} {c : Nat} {q : Int} (h : FP.Core.val32 x = .fin false c q) (hc1 : 8388608 ≤ c) : x.toNat = ((q + 149).toNat + 1) * 8388608 + (c - 8388608) := by
  have h1 : x.toNat = FP.Core.encode FP.Core.b32 (.fin false c q) := by
    rw [← h, ← FP.Core.toNat_of32 (FP.Core.val32_fits x), FP.Core.of32_val32 (nn_F h)]
  rw [h1]
  show (if c < FP.Core.b32.tails then _ else ((false.toNat * FP.Core.b32.exps + ((q - FP.Core.b32.qmin).toNat + 1)) * FP.Core.b32.tails + (c - FP.Core.b32.tails))) = _
  rw [t_F, if_neg (by omega), qm_F, show false.toNat = 0 from rfl, Nat.zero_mul, Nat.zero_add, show q - -149 = q + 149 by omega]
theorem or_F {a t : Nat} (ha : a < 256) (ht : t < 8388608) : (nI a <<< ((23 : Int32) &&& 31)) ||| nI t = nI (a * 8388608 + t) := by
  apply Int32.toBitVec_inj.mp
  rw [Int32.toBitVec_or, Int32.toBitVec_shiftLeft, show (((23 : Int32) &&& 31) : Int32).toBitVec.smod 32 = 23#32 from by decide]
  apply BitVec.eq_of_toNat_eq
  have h1 : (nI a).toBitVec = BitVec.ofNat 32 a := rfl
  have h2 : (nI t).toBitVec = BitVec.ofNat 32 t := rfl
  have h3 : (nI (a * 8388608 + t)).toBitVec = BitVec.ofNat 32 (a * 8388608 + t) := rfl
  rw [h1, h2, h3, BitVec.toNat_or, BitVec.shiftLeft_eq', BitVec.toNat_shiftLeft, BitVec.toNat_ofNat, BitVec.toNat_ofNat, BitVec.toNat_ofNat, BitVec.toNat_ofNat, show 23 % 2 ^ 32 = 23 from rfl, Nat.mod_eq_of_lt (show a < 2 ^ 32 by omega), Nat.mod_eq_of_lt (show t < 2 ^ 32 by omega), Nat.mod_eq_of_lt (show a * 8388608 + t < 2 ^ 32 by omega), Nat.shiftLeft_eq, Nat.mod_eq_of_lt (show a * 2 ^ 23 < 2 ^ 32 by omega), ← Nat.shiftLeft_eq, ← Nat.shiftLeft_add_eq_or_of_lt (show t < 2 ^ 23 by omega), Nat.shiftLeft_eq]
theorem ti_F (x : UInt32) : x.toInt32 = nI x.toNat := by
  apply Int32.toBitVec_inj.mp
  have h1 : (nI x.toNat).toBitVec = BitVec.ofNat 32 x.toNat := rfl
  rw [h1]
  apply BitVec.eq_of_toNat_eq
  rw [BitVec.toNat_ofNat, Nat.mod_eq_of_lt x.toNat_lt]
  rfl
theorem lt1_F {x : UInt32} {c : Nat} {q : Int} {op : CmpOp} (h : FP.Core.val32 x = .fin false c q) (hc2 : c < 16777216) (hq : q < -23) : ¬ 0 ≤ Op.cmpValue (FP.fcmp x FP.fconst1) op := by
  have h1 : FP.fcmp x FP.fconst1 = some .lt := by
    show FP.Core.order (FP.Core.val32 x) (FP.Core.val32 FP.fconst1) = _
    rw [h, v1_F, fl_lt flW_32 (by rw [p2_F]; exact hc2) hq]
  rw [h1]
  cases op <;> decide
theorem ge1_F {x : UInt32} {c : Nat} {q : Int} {op : CmpOp} (h : FP.Core.val32 x = .fin false c q) (hc1 : 8388608 ≤ c) (hq : -23 ≤ q) : 0 ≤ Op.cmpValue (FP.fcmp x FP.fconst1) op := by
  have h1 : FP.fcmp x FP.fconst1 = some .gt ∨ FP.fcmp x FP.fconst1 = some .eq := by
    show FP.Core.order (FP.Core.val32 x) (FP.Core.val32 FP.fconst1) = _ ∨ FP.Core.order (FP.Core.val32 x) (FP.Core.val32 FP.fconst1) = _
    rw [h, v1_F]
    exact fl_ge (by rw [t_F]; exact hc1) hq
  rcases h1 with h1 | h1 <;> rw [h1] <;> cases op <;> decide
theorem gt0_F {x : UInt32} {c : Nat} {q : Int} {op : CmpOp} (h : FP.Core.val32 x = .fin false c q) (hc1 : 8388608 ≤ c) : 0 < Op.cmpValue (FP.fcmp x FP.fconst0) op := by
  have h1 : FP.fcmp x FP.fconst0 = some .gt := by
    show FP.Core.order (FP.Core.val32 x) (FP.Core.val32 FP.fconst0) = _
    rw [h, v0_F, fl_gt0 (by omega)]
  rw [h1]
  cases op <;> decide
theorem mul2_F {x : UInt32} {c : Nat} {q : Int} (h : FP.Core.val32 x = .fin false c q) (hc1 : 8388608 ≤ c) (hc2 : c < 16777216) (hq1 : -100 ≤ q) (hq2 : q ≤ 50) : FP.Core.val32 (FP.fmul x FP.fconst2) = .fin false c (q + 1) := by
  rw [FP.Core.val32_fmul, h, v2_F]
  exact fl_mulp flW_32 (by rw [t_F]; exact hc1) (by rw [p2_F]; exact hc2) (by rw [p_F]; omega) (by rw [qm_F]; omega) (by have h9 := flW_32.2.2; omega)
theorem frac_F {x : UInt32} {c : Nat} (h : FP.Core.val32 x = .fin false c (-23)) (hc1 : 8388608 ≤ c) (hc2 : c < 16777216) : cr_nfsub x FP.fconst1 = true ∧ cr_nfmul (FP.fsub x FP.fconst1) 1258291200 = true ∧ FP.f2i (FP.fmul (FP.fsub x FP.fconst1) 1258291200) = nI (c - 8388608) := by
  have hs : FP.Core.val32 (FP.fsub x FP.fconst1) = FP.Core.round FP.Core.b32 (.fin false (c - 8388608) (-((FP.Core.b32.p : Int) - 1))) := by
    have h9 := FP.Core.val32_fsub x FP.fconst1
    rw [h, v1_F, fl_sub1 (by rw [t_F]; exact hc1), t_F] at h9
    exact h9
  have hm : FP.Core.val32 (FP.fmul (FP.fsub x FP.fconst1) 1258291200) = FP.Core.round FP.Core.b32 (FP.Core.exactProduct (FP.Core.round FP.Core.b32 (.fin false (c - 8388608) (-((FP.Core.b32.p : Int) - 1)))) (.fin false FP.Core.b32.tails 0)) := by
    have h9 := FP.Core.val32_fmul (FP.fsub x FP.fconst1) 1258291200
    rw [hs, vT_F] at h9
    exact h9
  obtain ⟨⟨c3, q3, e3⟩, ⟨c4, q4, e4⟩, e5⟩ := fl_frac (t := c - 8388608) (lo := -2 ^ 31) (hi := 2 ^ 31 - 1) flW_32 (by rw [t_F]; omega) (by decide) (by omega)
  refine ⟨gd_F (by rw [hs, e3]; exact FP.Core.Datum.noConfusion), gd_F (by rw [hm, e4]; exact FP.Core.Datum.noConfusion), ?_⟩
  show Int32.ofInt (FP.Core.toInt (-2 ^ 31) (2 ^ 31 - 1) (FP.Core.val32 (FP.fmul (FP.fsub x FP.fconst1) 1258291200))) = _
  rw [hm, e5]
  exact Int32.ofInt_eq_ofNat
theorem q_d50 {x : UInt64} {c m : Nat} (h : FP.Core.val64 x = .fin false c (-52)) (hc1 : 4503599627370496 ≤ c) (hc2 : c < 9007199254740992) (hm : m < 2048) : s_X8_bitsOfDouble_50 x (lN m) = some (lN (m * 4503599627370496 + (c - 4503599627370496))) := by
  obtain ⟨e1, e2, e3⟩ := frac_D h hc1 hc2
  rw [s_X8_bitsOfDouble_50, e1, pm_gd, e2, pm_gd, e3, or_D hm (by omega)]
theorem q_dloop : ∀ (d n i m : Nat) (x : UInt64) (c : Nat) (q : Int), q = -52 - (d : Int) → d ≤ 40 → d < n → i + d ≤ 100 → d ≤ m → m < 2048 → FP.Core.val64 x = .fin false c q → 4503599627370496 ≤ c → c < 9007199254740992 → s_X8_bitsOfDouble_18 n x (lN m) (nI i) = some (lN ((m - d) * 4503599627370496 + (c - 4503599627370496))) := by
  intro d
  induction d with
  | zero =>
    intro n i m x c q hq hd hn hi hdm hm h hc1 hc2
    obtain ⟨n, rfl⟩ : ∃ m, n = m + 1 := ⟨n - 1, by omega⟩
    have h1 : ¬ (1022 : Int32) ≤ nI i := by
      rw [show (1022 : Int32) = nI 1022 from rfl, nI_leI (by omega) (by omega)]
      omega
    obtain rfl : q = -52 := by omega
    rw [s_X8_bitsOfDouble_18, if_neg h1, if_pos (ge1_D h hc1 (by omega)), q_d50 h hc1 hc2 hm, Nat.sub_zero]
  | succ d ih =>
    intro n i m x c q hq hd hn hi hdm hm h hc1 hc2
    obtain ⟨n, rfl⟩ : ∃ m, n = m + 1 := ⟨n - 1, by omega⟩
    have h1 : ¬ (1022 : Int32) ≤ nI i := by
      rw [show (1022 : Int32) = nI 1022 from rfl, nI_leI (by omega) (by omega)]
      omega
    have h2 := mul2_D h hc1 hc2 (by omega) (by omega)
    have h3 : cr_ndmul x 4611686018427387904 = true := gd_D (nn_D h2)
    have h4 := ih n (i + 1) (m - 1) _ c (q + 1) (by omega) (by omega) (by omega) (by omega) (by omega) (by omega) h2 hc1 hc2
    rw [s_X8_bitsOfDouble_18, if_neg h1, if_neg (lt1_D h hc2 (by omega)), h3, pm_gd, pm_bd, pm_bd, pm_bd, show (1 : Int64) = lN 1 from rfl, lN_sub (by omega), show nI i + 1 = nI (i + 1) from nI_add i 1, h4, show m - 1 - d = m - (d + 1) by omega]
theorem q_bitsD {x : UInt64} {c : Nat} {q : Int} (h : FP.Core.val64 x = .fin false c q) (hc1 : 4503599627370496 ≤ c) (hc2 : c < 9007199254740992) (hq1 : -92 ≤ q) (hq2 : q ≤ -52) : s_X8_bitsOfDouble x = some x.toInt64 := by
  have h1 := q_dloop (-52 - q).toNat 1200 0 1023 x c q (by omega) (by omega) (by omega) (by omega) (by omega) (by omega) h hc1 hc2
  rw [s_X8_bitsOfDouble, if_pos (gt0_D h hc1), show (1023 : Int64) = lN 1023 from rfl, show (0 : Int32) = nI 0 from rfl, h1, ti_D, bits_D h hc1, show (q + 1074).toNat + 1 = 1023 - (-52 - q).toNat by omega]
theorem q_bitsD0 : s_X8_bitsOfDouble FP.dconst0 = some FP.dconst0.toInt64 := by decide +kernel
theorem q_f67 {x : UInt32} {c m : Nat} (h : FP.Core.val32 x = .fin false c (-23)) (hc1 : 8388608 ≤ c) (hc2 : c < 16777216) (hm : m < 256) : s_X8_bitsOfFloat_67 x (nI m) = some (nI (m * 8388608 + (c - 8388608))) := by
  obtain ⟨e1, e2, e3⟩ := frac_F h hc1 hc2
  rw [s_X8_bitsOfFloat_67, e1, pm_gd, e2, pm_gd, e3, or_F hm (by omega)]
theorem q_floop : ∀ (d n i m : Nat) (x : UInt32) (c : Nat) (q : Int), q = -23 - (d : Int) → d ≤ 70 → d < n → i + d ≤ 100 → d ≤ m → m < 256 → FP.Core.val32 x = .fin false c q → 8388608 ≤ c → c < 16777216 → s_X8_bitsOfFloat_42 n x (nI m) (nI i) = some (nI ((m - d) * 8388608 + (c - 8388608))) := by
  intro d
  induction d with
  | zero =>
    intro n i m x c q hq hd hn hi hdm hm h hc1 hc2
    obtain ⟨n, rfl⟩ : ∃ m, n = m + 1 := ⟨n - 1, by omega⟩
    have h1 : ¬ (126 : Int32) ≤ nI i := by
      rw [show (126 : Int32) = nI 126 from rfl, nI_leI (by omega) (by omega)]
      omega
    obtain rfl : q = -23 := by omega
    rw [s_X8_bitsOfFloat_42, if_neg h1, if_pos (ge1_F h hc1 (by omega)), q_f67 h hc1 hc2 hm, Nat.sub_zero]
  | succ d ih =>
    intro n i m x c q hq hd hn hi hdm hm h hc1 hc2
    obtain ⟨n, rfl⟩ : ∃ m, n = m + 1 := ⟨n - 1, by omega⟩
    have h1 : ¬ (126 : Int32) ≤ nI i := by
      rw [show (126 : Int32) = nI 126 from rfl, nI_leI (by omega) (by omega)]
      omega
    have h2 := mul2_F h hc1 hc2 (by omega) (by omega)
    have h3 : cr_nfmul x FP.fconst2 = true := gd_F (nn_F h2)
    have h4 := ih n (i + 1) (m - 1) _ c (q + 1) (by omega) (by omega) (by omega) (by omega) (by omega) (by omega) h2 hc1 hc2
    rw [s_X8_bitsOfFloat_42, if_neg h1, if_neg (lt1_F h hc2 (by omega)), h3, pm_gd, pm_bd, pm_bd, pm_bd, sb_m1 (by omega), show nI i + 1 = nI (i + 1) from nI_add i 1, h4, show m - 1 - d = m - (d + 1) by omega]
theorem lt2_F {x : UInt32} {c : Nat} {q : Int} {op : CmpOp} (h : FP.Core.val32 x = .fin false c q) (hc2 : c < 16777216) (hq : q < -22) : Op.cmpValue (FP.fcmp x FP.fconst2) op < 0 := by
  have h1 : FP.fcmp x FP.fconst2 = some .lt := by
    show FP.Core.order (FP.Core.val32 x) (FP.Core.val32 FP.fconst2) = _
    rw [h, v2_F, fl_lt flW_32 (by rw [p2_F]; exact hc2) hq]
  rw [h1]
  cases op <;> decide
theorem ge2_F {x : UInt32} {c : Nat} {q : Int} {op : CmpOp} (h : FP.Core.val32 x = .fin false c q) (hc1 : 8388608 ≤ c) (hq : -22 ≤ q) : ¬ Op.cmpValue (FP.fcmp x FP.fconst2) op < 0 := by
  have h1 : FP.fcmp x FP.fconst2 = some .gt ∨ FP.fcmp x FP.fconst2 = some .eq := by
    show FP.Core.order (FP.Core.val32 x) (FP.Core.val32 FP.fconst2) = _ ∨ FP.Core.order (FP.Core.val32 x) (FP.Core.val32 FP.fconst2) = _
    rw [h, v2_F]
    exact fl_ge (by rw [t_F]; exact hc1) hq
  rcases h1 with h1 | h1 <;> rw [h1] <;> cases op <;> decide
theorem q_floop2 : ∀ (d n i m : Nat) (x : UInt32) (c : Nat) (q : Int), d = (q + 23).toNat → d ≤ 40 → -90 ≤ q → d < n → i + d ≤ 100 → m + d ≤ 200 → 90 ≤ m → FP.Core.val32 x = .fin false c q → 8388608 ≤ c → c < 16777216 → s_X8_bitsOfFloat_15 n x (nI m) (nI i) = some (nI (((m : Int) + q + 23).toNat * 8388608 + (c - 8388608))) := by
  intro d
  induction d with
  | zero =>
    intro n i m x c q hq hd hq9 hn hi hdm hm h hc1 hc2
    obtain ⟨n, rfl⟩ : ∃ m, n = m + 1 := ⟨n - 1, by omega⟩
    have h1 : ¬ (126 : Int32) ≤ nI i := by
      rw [show (126 : Int32) = nI 126 from rfl, nI_leI (by omega) (by omega)]
      omega
    have h2 := q_floop (-23 - q).toNat 1200 0 m x c q (by omega) (by omega) (by omega) (by omega) (by omega) (by omega) h hc1 hc2
    rw [s_X8_bitsOfFloat_15, if_neg h1, if_pos (lt2_F h hc2 (by omega)), show (0 : Int32) = nI 0 from rfl, h2, show m - (-23 - q).toNat = ((m : Int) + q + 23).toNat by omega]
  | succ d ih =>
    intro n i m x c q hq hd hq9 hn hi hdm hm h hc1 hc2
    obtain ⟨n, rfl⟩ : ∃ m, n = m + 1 := ⟨n - 1, by omega⟩
    have h1 : ¬ (126 : Int32) ≤ nI i := by
      rw [show (126 : Int32) = nI 126 from rfl, nI_leI (by omega) (by omega)]
      omega
    have h2 : FP.Core.val32 (FP.fdiv x FP.fconst2) = .fin false c (q - 1) := by
      rw [FP.Core.val32_fdiv, h, v2_F]
      exact fl_divp flW_32 (by rw [t_F]; exact hc1) (by rw [p2_F]; exact hc2) (by rw [p_F]; omega) (by rw [qm_F]; omega) (by have h9 := flW_32.2.2; omega)
    have h3 : cr_nfdiv x FP.fconst2 = true := gd_F (nn_F h2)
    have h4 := ih n (i + 1) (m + 1) _ c (q - 1) (by omega) (by omega) (by omega) (by omega) (by omega) (by omega) (by omega) h2 hc1 hc2
    rw [s_X8_bitsOfFloat_15, if_neg h1, if_neg (ge2_F h hc1 (by omega)), h3, pm_gd, pm_bd, pm_bd, pm_bd, show nI m + 1 = nI (m + 1) from nI_add m 1, show nI i + 1 = nI (i + 1) from nI_add i 1, h4, show ((m + 1 : Nat) : Int) + (q - 1) + 23 = (m : Int) + q + 23 by omega]
theorem q_bitsF {x : UInt32} {c : Nat} {q : Int} (h : FP.Core.val32 x = .fin false c q) (hc1 : 8388608 ≤ c) (hc2 : c < 16777216) (hq1 : -60 ≤ q) (hq2 : q ≤ 12) : s_X8_bitsOfFloat x = some x.toInt32 := by
  have h1 := q_floop2 (q + 23).toNat 1200 0 127 x c q rfl (by omega) (by omega) (by omega) (by omega) (by omega) (by omega) h hc1 hc2
  rw [s_X8_bitsOfFloat, if_pos (gt0_F h hc1), show (127 : Int32) = nI 127 from rfl, show (0 : Int32) = nI 0 from rfl, h1, ti_F, bits_F h hc1, show (q + 149).toNat + 1 = (((127 : Nat) : Int) + q + 23).toNat by omega]
theorem q_bitsF0 : s_X8_bitsOfFloat FP.fconst0 = some FP.fconst0.toInt32 := by decide +kernel
theorem q_bitsF8 : s_X8_bitsOfFloat 1090519040 = some (1090519040 : UInt32).toInt32 := by decide +kernel
/-! quotients of the two kinds -/
def okF (x : UInt32) : Prop := FP.Core.val32 x ≠ .nan ∧ s_X8_bitsOfFloat x = some x.toInt32
def okD (x : UInt64) : Prop := FP.Core.val64 x ≠ .nan ∧ s_X8_bitsOfDouble x = some x.toInt64
theorem okF_8 : okF 1090519040 := ⟨by decide +kernel, q_bitsF8⟩
theorem okD_0 : okD FP.dconst0 := ⟨by decide +kernel, q_bitsD0⟩
theorem okF_quo {a b : Nat} (ha : a < 16777216) (hb0 : 0 < b) (hb : b < 16777216) : okF (FP.fdiv (FP.i2f (nI a)) (FP.i2f (nI b))) := by
  have hv : FP.Core.val32 (FP.fdiv (FP.i2f (nI a)) (FP.i2f (nI b))) = FP.Core.quotient FP.Core.b32 (FP.Core.round FP.Core.b32 (FP.Core.ofInt (a : Int))) (FP.Core.round FP.Core.b32 (FP.Core.ofInt (b : Int))) := by
    have h9 := FP.Core.val32_fdiv (FP.i2f (nI a)) (FP.i2f (nI b))
    rw [FP.Core.val32_i2f, FP.Core.val32_i2f, nI_toInt (by omega), nI_toInt (by omega)] at h9
    exact h9
  by_cases e : a = 0
  · subst e
    obtain ⟨b1, b2, b3⟩ := fl_int flW_32 (a := b) hb0 (by rw [p2_F]; exact hb)
    have ht := FP.Core.tails_pos FP.Core.b32
    have h0 : FP.Core.val32 (FP.fdiv (FP.i2f (nI 0)) (FP.i2f (nI b))) = FP.Core.val32 FP.fconst0 := by
      rw [hv, b1, v0_F]
      show (if b * 2 ^ (FP.Core.b32.p - 1 - b.log2) = 0 then _ else FP.Core.roundRatio FP.Core.b32 (false != false) 0 _ _) = _
      rw [if_neg (by omega)]
      exact if_pos rfl
    have hx := FP.Core.val32_inj (nn_F (h0.trans v0_F)) h0
    rw [hx]
    exact ⟨nn_F v0_F, q_bitsF0⟩
  · obtain ⟨n, q, e1, e2, e3, e4, e5, -⟩ := fl_quo flW_32 (a := a) (b := b) (by omega) (by rw [p2_F]; exact ha) hb0 (by rw [p2_F]; exact hb) (by omega) (by omega)
    have hx := hv.trans e1
    rw [t_F] at e2
    rw [p2_F] at e3
    rw [p_F] at e4 e5
    exact ⟨nn_F hx, q_bitsF hx e2 e3 (by omega) (by omega)⟩
theorem okD_quo {a b : Nat} (hab : a ≤ b) (hb0 : 0 < b) (hb : b < 2147483648) : okD (FP.ddiv (FP.i2d (nI a)) (FP.i2d (nI b))) := by
  have hv : FP.Core.val64 (FP.ddiv (FP.i2d (nI a)) (FP.i2d (nI b))) = FP.Core.quotient FP.Core.b64 (FP.Core.round FP.Core.b64 (FP.Core.ofInt (a : Int))) (FP.Core.round FP.Core.b64 (FP.Core.ofInt (b : Int))) := by
    have h9 := FP.Core.val64_ddiv (FP.i2d (nI a)) (FP.i2d (nI b))
    rw [FP.Core.val64_i2d, FP.Core.val64_i2d, nI_toInt (by omega), nI_toInt (by omega)] at h9
    exact h9
  by_cases e : a = 0
  · subst e
    obtain ⟨b1, b2, b3⟩ := fl_int flW_64 (a := b) hb0 (by rw [p2_D]; omega)
    have ht := FP.Core.tails_pos FP.Core.b64
    have h0 : FP.Core.val64 (FP.ddiv (FP.i2d (nI 0)) (FP.i2d (nI b))) = FP.Core.val64 FP.dconst0 := by
      rw [hv, b1, v0_D]
      show (if b * 2 ^ (FP.Core.b64.p - 1 - b.log2) = 0 then _ else FP.Core.roundRatio FP.Core.b64 (false != false) 0 _ _) = _
      rw [if_neg (by omega)]
      exact if_pos rfl
    have hx := FP.Core.val64_inj (nn_D (h0.trans v0_D)) h0
    rw [hx]
    exact okD_0
  · obtain ⟨n, q, e1, e2, e3, e4, e5, e6⟩ := fl_quo flW_64 (a := a) (b := b) (by omega) (by rw [p2_D]; omega) hb0 (by rw [p2_D]; omega) (by omega) (by omega)
    have hx := hv.trans e1
    have e7 := e6 hab
    rw [t_D] at e2
    rw [p2_D] at e3
    rw [p_D] at e4 e5 e7
    exact ⟨nn_D hx, q_bitsD hx e2 e3 (by omega) (by omega)⟩
theorem okF_d {x : UInt32} (h : okF x) : cr_nf2d x = true ∧ Op.cmpValue (FP.dcmp (FP.f2d x) (FP.f2d x)) .l = nI 0 := by
  have h1 : FP.fIsNaN x = false := (FP.Core.notNaN_iff32 x).mpr h.1
  have h2 : FP.dIsNaN (FP.f2d x) = false := (FP.f2d_nan x).trans h1
  have h3 := (FP.Core.notNaN_iff (FP.f2d x)).mp h2
  refine ⟨gd_D h3, ?_⟩
  rw [show FP.dcmp (FP.f2d x) (FP.f2d x) = some .eq from FP.Core.dcmp_self h3]
  rfl
theorem okD_c {x : UInt64} (h : okD x) : Op.cmpValue (FP.dcmp x x) .l = nI 0 := by
  rw [show FP.dcmp x x = some .eq from FP.Core.dcmp_self h.1]
  rfl
theorem okF_m {x : UInt32} (h : okF x) : s_Jxf58ca_floatToIntBits_5c35a x = some x.toInt32 := by
  have h1 : Op.cmpValue (FP.fcmp x x) .l = 0 := by
    rw [show FP.fcmp x x = some .eq from FP.Core.fcmp_self h.1]
    rfl
  rw [s_Jxf58ca_floatToIntBits_5c35a, s_Jxf58ca_isNaN_12338, if_pos h1, pm_cl, if_neg (by decide)]
theorem okD_m {x : UInt64} (h : okD x) : s_Jxe99ae_doubleToLongBits_ccdee x = some x.toInt64 := by
  have h1 : Op.cmpValue (FP.dcmp x x) .l = 0 := by
    rw [show FP.dcmp x x = some .eq from FP.Core.dcmp_self h.1]
    rfl
  rw [s_Jxe99ae_doubleToLongBits_ccdee, s_Jxe99ae_isNaN_b9ae7, if_pos h1, pm_cl, if_neg (by decide)]
